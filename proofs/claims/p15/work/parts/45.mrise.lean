set_option maxHeartbeats 4000000 in
set_option maxRecDepth 100000 in
/-- rise -/
theorem c_X7_rise (l : Launch) (dC : Nat → ClassId) (dI : Nat → Nat → Nat) (cy : Nat → ClassId) (w : Nat → Nat) (L : List Nat) (K N : Nat → Nat) (T : Nat → Nat → Nat) (Q : Nat → Nat → Option Nat) (I J : Nat → Nat → Int32) (sz : Nat) (xp : Int32) (hM : MS w L K N T Q) (hp : vp_in xp 4) (hLD : LD (J (w 4) xp.toNatClampNeg) (J (w 7) xp.toNatClampNeg)) : Met l yX7_rise wsX7_rise ({ frames := 3, cells := 0, slots := 0, locals := 73 }) (va_Pc [.ref (w 0), .int xp] (mW dC dI cy L (wF cy K N T I Q J) sz)) (va_Qv (fun d : (Nat → Nat → Int32) × (Nat → Nat → Int32) => RZ w I J d.1 d.2 xp.toNatClampNeg) (fun (d : (Nat → Nat → Int32) × (Nat → Nat → Int32)) t => va_P (dC, dI) vwCl (va_pl L (wF cy K N T d.1 Q d.2)) t.heap ∧ va_K (dC, dI) vwCl (mTy cy) t ∧ va_D (va_A (va_pl L (wF cy K N T I Q J)) sz) (va_pl L (wF cy K N T d.1 Q d.2))) (va_A (va_pl L (wF cy K N T I Q J)) sz)) 0 0 (va_A (va_pl L (wF cy K N T I Q J)) sz) := by
  refine Met.ofW (cc := cX7_rise) (maxL := 5) (ret := none) (by decide) rfl ?_
  intro p e s m args below meth c s₁ B hml hv
  obtain ⟨rfl, hsz, ⟨hP, hK⟩, hD0⟩ := hv
  have hx := B.exec
  have hb := B.bytes
  have hr := B.returns
  have hts := atoms_spec (ws := wsX7_rise) B.pre
  have hown : s.vm.findClass RX7 = some m.cls := findClass_of_methodNamed B.named
  have hlocks := B.notSynchronized
  have hi7 : ∀ w ∈ wsX70, w ∈ wsX7_rise := by decide +kernel
  have hi6 : ∀ w ∈ wsX60, w ∈ wsX7_rise := by decide +kernel
  have hl := lv_entry ([.ref (w 0), .int xp]) (n := 5) (Nat.le_of_ble_eq_true rfl)
  rw [lg_entry_eq]
  generalize (lg_sl ([.ref (w 0), .int xp]) ++ List.replicate (5 - (lg_sl ([.ref (w 0), .int xp])).length) Slot.unset).toArray = ls at hl ⊢
  have hl : lv_has ls 5 [(0, .ref (w 0)), (1, .int xp)] := hl
  subst hsz
  have hD := hD0.self (sz := s.heap.size)
  generalize hAe : va_A (va_pl L (wF cy K N T I Q J)) s.heap.size = A at hD ⊢
  have hA : ∀ q : Nat, s.heap.size ≤ q → A q := fun q h => by rw [← hAe]; exact Or.inr h
  have hS : va_S A s.heap s.heap [] := va_S.rf
  refine lv_aload_n hx hb dX7_rise_0 rfl (lv_at hl 0 rfl) ?_
  refine lv_iload_n hx hb dX7_rise_1 rfl (lv_at hl 1 rfl) ?_
  obtain ⟨j173, hj173⟩ := wG_7 (cy := cy) (N := N) (T := T) (I := I) (Q := Q) (J := J) (hM.at 0 (by decide)) (hM.k 0 (by decide) rfl)
  refine va_csq (W.runV (As := [.int xp]) (rest := []) ⟨hx, hb, hml, hown, hts⟩ (c_X7_own l dC dI cy w L K N T Q I J xp hM hp) (cwV 1 hts gX7_rise_X7_own rfl rfl rfl (by decide +kernel) ⟨Nat.le_of_ble_eq_true rfl, Nat.le_of_ble_eq_true rfl⟩) ⟨mb_blind, va_recv hK hP (ci := 7) (q0 := j173) rfl hj173, fun U hU hW => ⟨rfl, mb_pre hP hK hU hW⟩⟩ rfl rfl hl.1 rfl (lv_room (Nat.le_of_ble_eq_true rfl)) dX7_rise_2 ⟨Nat.le_of_ble_eq_true rfl, Nat.le_of_ble_eq_true rfl⟩) (fun r172 hr172 => ?_)
  subst hr172
  rcases sp_ow_cs w (I (w 0) 16) (J (w 4) xp.toNatClampNeg) xp.toNatClampNeg with hon174 | ⟨n174, hnn174, eln174, hubn174, hon174⟩
  · refine W.eq (g2 := F0 m 5 ls [.null]) (by rw [hon174]; rfl) ?_
    refine lv_astore_nN (lv' := [(2, .null), (0, .ref (w 0)), (1, .int xp)]) hx hb dX7_rise_5 rfl hl (by decide) rfl (fun ls hl => ?_)
    refine lv_aload_nN hx hb dX7_rise_6 rfl (lv_at hl 0 rfl) ?_
    refine lv_ifnonnullN hx hb dX7_rise_7 ?_
    exact W.vret hx hb hr (fun t ht hW => ⟨⟨(I, J), rfl, ⟨rfl, Or.inl rfl⟩, by rw [ht]; exact hP, va_K.moved hW.alike hK, hD⟩, hS.F ht⟩) hS.2.2 dX7_rise_10
  · have hjn174 : (5 * xp.toNatClampNeg + n174) < 20 := by have h1 := vp_lt (n := 4) hp; omega
    refine W.eq (g2 := F0 m 5 ls [.ref (w (21 + (5 * xp.toNatClampNeg + n174)))]) (by rw [hon174]; rfl) ?_
    refine lv_astore_n (lv' := [(2, .ref (w (21 + (5 * xp.toNatClampNeg + n174)))), (0, .ref (w 0)), (1, .int xp)]) hx hb dX7_rise_5 rfl hl (by decide) rfl (fun ls hl => ?_)
    refine lv_aload_n hx hb dX7_rise_6 rfl (lv_at hl 0 rfl) ?_
    refine lv_ifnonnull (tgt := 11) hx hb dX7_rise_7 (by decide) ?_
    have hbitn174 : (J (w 7) xp.toNatClampNeg >>> (nI n174 &&& 31)) &&& 1 = 1 := by
      rcases hLD with h | h
      · rw [eln174, nI_toInt (by omega)] at h; omega
      · rw [← eln174]; exact h.2
    refine lv_ldc hx hb hown (hts (.constant RX7 101 2147483647) (by decide +kernel)) dX7_rise_11 ?_
    refine lv_istore_n (lv' := [(3, .int 2147483647), (2, .ref (w (21 + (5 * xp.toNatClampNeg + n174)))), (0, .ref (w 0)), (1, .int xp)]) hx hb dX7_rise_13 rfl hl (by decide) rfl (fun ls hl => ?_)
    refine lv_iconst (v := 0) hx hb dX7_rise_14 (by decide) ?_
    refine lv_istore (lv' := [(4, .int 0), (3, .int 2147483647), (2, .ref (w (21 + (5 * xp.toNatClampNeg + n174)))), (0, .ref (w 0)), (1, .int xp)]) hx hb dX7_rise_15 hl (by decide) rfl (fun ls hl => ?_)
    refine wq_gen (fun Qz hQz => ?_)
    have hLP175 : ∀ (n : Nat) (y176 y177 : Int32) (ls : Array Slot), (5 - y176.toInt).toNat < n → 0 ≤ y176.toInt → (((n174 : Nat) : Int) < y176.toInt → y177.toInt ≤ (I (w (21 + (5 * xp.toNatClampNeg + n174))) 2).toInt) → lv_has ls 5 [(4, .int y176), (3, .int y177), (2, .ref (w (21 + (5 * xp.toNatClampNeg + n174)))), (0, .ref (w 0)), (1, .int xp)] → W p l e (headSpec wsX7_rise ({ frames := 3, cells := 0, slots := 0, locals := 73 })).room s m ([.ref (w 0), .int xp] : List Value).toArray below meth c s.heap [] 0 0 Qz (F0 m 17 ls []) := by
      intro n
      induction n with
      | zero => intro y176 y177 ls hms; exact absurd hms (Nat.not_lt_zero _)
      | succ n ih175 =>
        intro y176 y177 ls hms hnn175 hiv175 hl
        refine lv_iload hx hb dX7_rise_17 (lv_at hl 0 rfl) ?_
        refine lv_iconst (v := 5) hx hb dX7_rise_19 (by decide) ?_
        refine lv_icmp_ge (tgt := 56) hx hb dX7_rise_20 (by decide) (fun c178 => ?_) (fun c178 => ?_)
        · have kc178 : 5 ≤ y176.toInt := by have h9 := c178; rw [xk_le, xk_5] at h9; exact h9
          refine lv_iload_n hx hb dX7_rise_56 rfl (lv_at hl 1 rfl) ?_
          refine lv_ldc hx hb hown (hts (.constant RX7 101 2147483647) (by decide +kernel)) dX7_rise_57 ?_
          refine lv_icmp_eq (tgt := 75) hx hb dX7_rise_59 (by decide) (fun c179 => ?_) (fun c179 => ?_)
          · have kc179 : y177.toInt = 2147483647 := by have h9 := c179; rw [xk_eq, (show (2147483647 : Int32).toInt = 2147483647 by decide)] at h9; exact h9
            rw [hQz]
            exact W.vret hx hb hr (fun t ht hW => ⟨⟨(I, J), rfl, ⟨rfl, Or.inl rfl⟩, by rw [ht]; exact hP, va_K.moved hW.alike hK, hD⟩, hS.F ht⟩) hS.2.2 dX7_rise_75
          · have kc179 : ¬ (y177.toInt = 2147483647) := by have h9 := c179; rw [xk_eq, (show (2147483647 : Int32).toInt = 2147483647 by decide)] at h9; exact h9
            refine lv_iload_n hx hb dX7_rise_62 rfl (lv_at hl 1 rfl) ?_
            refine lv_aload_n hx hb dX7_rise_63 rfl (lv_at hl 2 rfl) ?_
            obtain ⟨j180, hj180⟩ := wG_6 (cy := cy) (N := N) (T := T) (I := I) (Q := Q) (J := J) (hM.lg hjn174).1 (hM.lg hjn174).2
            refine va_get (D := (dC, dI)) (ci := 6) (v := .int (I (w (21 + (5 * xp.toNatClampNeg + n174))) 3)) (C := RX6) (T := TX6) (N := 7) hx hb hts hi6 hown hK hP j180 hj180 rfl 3 (by decide) (hts (.fieldLink RX7 109 "TallyLogsModel$Log" "high" "I") (by decide +kernel)) (fun _ h9 => h9) rfl dX7_rise_64 ?_
            refine lv_topi (fun x181 ex181 => ?_)
            have tx181 : x181.toInt = (I (w (21 + (5 * xp.toNatClampNeg + n174))) 3).toInt := congrArg Int32.toInt ex181
            refine lv_icmp_le (tgt := 75) hx hb dX7_rise_67 (by decide) (fun c182 => ?_) (fun c182 => ?_)
            · have kc182 : y177.toInt ≤ x181.toInt := by have h9 := c182; rw [xk_le] at h9; exact h9
              rw [hQz]
              exact W.vret hx hb hr (fun t ht hW => ⟨⟨(I, J), rfl, ⟨rfl, Or.inl rfl⟩, by rw [ht]; exact hP, va_K.moved hW.alike hK, hD⟩, hS.F ht⟩) hS.2.2 dX7_rise_75
            · have kc182 : ¬ (y177.toInt ≤ x181.toInt) := by have h9 := c182; rw [xk_le] at h9; exact h9
              refine lv_aload_n hx hb dX7_rise_70 rfl (lv_at hl 2 rfl) ?_
              refine lv_iload_n hx hb dX7_rise_71 rfl (lv_at hl 1 rfl) ?_
              obtain ⟨j183, hj183⟩ := wG_6 (cy := cy) (N := N) (T := T) (I := I) (Q := Q) (J := J) (hM.lg hjn174).1 (hM.lg hjn174).2
              have hDo := hD
              refine va_put (D := (dC, dI)) (ci := 6) (v := .int y177) (ty := .int) (C := RX6) (T := TX6) (N := 7) hx hb hts hi6 tyX6 tyX6_ok nmX6 hown hK hP hD hS j183 hj183 rfl 3 (by decide) (hts (.fieldLink RX7 109 "TallyLogsModel$Log" "high" "I") (by decide +kernel)) (fun _ h9 => h9) rfl (by decide +kernel) rfl rfl (Nat.le_of_ble_eq_true rfl) dX7_rise_72 (fun H locs hP hD hS => ?_)
              have hP := Eq.mp (congrArg (fun w => va_P (dC, dI) vwCl w H) (wP_6_3 (x := y177) hDo (hM.lg hjn174).1 (hM.lg hjn174).2 hj183)) hP
              obtain ⟨I184, eI184⟩ : ∃ z, z = p2 I (w (21 + (5 * xp.toNatClampNeg + n174))) 3 y177 := ⟨_, rfl⟩
              rw [← eI184] at hP
              have hD : va_D A (va_pl L (wF cy K N T I184 Q J)) := pD hDo
              rw [hQz]
              exact W.vret hx hb hr (fun t ht hW => ⟨⟨(I184, J), rfl, ⟨rfl, Or.inr ⟨n174, y177, hnn174, eln174, hiv175 (by omega), eI184⟩⟩, by rw [ht]; exact hP, va_K.moved hW.alike hK, hD⟩, hS.F ht⟩) hS.2.2 dX7_rise_75
        · have kc178 : ¬ (5 ≤ y176.toInt) := by have h9 := c178; rw [xk_le, xk_5] at h9; exact h9
          refine lv_aload_n hx hb dX7_rise_23 rfl (lv_at hl 3 rfl) ?_
          obtain ⟨j185, hj185⟩ := wG_7 (cy := cy) (N := N) (T := T) (I := I) (Q := Q) (J := J) (hM.at 0 (by decide)) (hM.k 0 (by decide) rfl)
          refine va_get (D := (dC, dI)) (ci := 7) (v := .ref (T (w 0) 6)) (C := RX7) (T := TX7) (N := 18) hx hb hts hi7 hown hK hP j185 hj185 rfl 6 (by decide) (hts (.fieldLink RX7 31 "TallyLogsModel" "step" "[I") (by decide +kernel)) (fun _ h9 => h9) rfl dX7_rise_24 ?_
          refine W.eq (g2 := F0 m 27 ls [.ref (w 7)]) (by rw [hM.t 6 (by decide)]) ?_
          refine lv_iload_n hx hb dX7_rise_27 rfl (lv_at hl 4 rfl) ?_
          obtain ⟨j186, hj186⟩ := wG_20 (cy := cy) (N := N) (T := T) (I := I) (Q := Q) (J := J) (hM.at 7 (by decide)) (hM.k 7 (by decide) rfl)
          refine va_iald hx hb hK hP j186 1 hj186 rfl (hM.inN (n := 4) 7 (by decide) rfl rfl hp) dX7_rise_28 ?_
          refine lv_topi (fun x187 ex187 => ?_)
          refine lv_iload hx hb dX7_rise_29 (lv_at hl 0 rfl) ?_
          refine lv_ishr hx hb dX7_rise_31 ?_
          refine lv_topi (fun v188 ev188 => ?_)
          refine lv_iconst (v := 1) hx hb dX7_rise_32 (by decide) ?_
          refine lv_iand hx hb dX7_rise_33 ?_
          refine lv_topi (fun v189 ev189 => ?_)
          refine lv_iconst (v := 1) hx hb dX7_rise_34 (by decide) ?_
          refine lv_icmp_ne (tgt := 50) hx hb dX7_rise_35 (by decide) (fun c190 => ?_) (fun c190 => ?_)
          · have kc190 : ¬ (v189.toInt = 1) := by have h9 := c190; rw [xk_eq, xk_1] at h9; exact h9
            obtain ⟨v191, ev191⟩ : ∃ y : Int32, y = y176 + Int32.ofInt 1 := ⟨_, rfl⟩
            refine lv_iinc (v := v191) (lv' := [(4, .int v191), (3, .int y177), (2, .ref (w (21 + (5 * xp.toNatClampNeg + n174)))), (0, .ref (w 0)), (1, .int xp)]) hx hb dX7_rise_50 hl (k := 0) rfl ev191.symm (by decide) rfl (fun ls hl => ?_)
            refine lv_goto (tgt := 17) hx hb dX7_rise_53 (by decide) ?_
            have tv191 : v191.toInt = y176.toInt + 1 := by rw [ev191, show y176 + Int32.ofInt 1 = y176 + 1 from rfl]; exact xinc (y := (5 : Int32)) (by rw [xk_lt, xk_5]; omega)
            exact ih175 _ _ _ (by omega) (by omega) (fun h9 => by by_cases q9 : ((n174 : Nat) : Int) < y176.toInt; (exact hiv175 q9); have ey9 : y176 = nI n174 := (by rw [xk_eq, nI_toInt (by omega)]; omega); exact absurd (by rw [ev189, ev188, ex187, ey9]; exact hbitn174) c190)  (lv_sub hl [0, 1, 2, 3, 4] rfl)
          · have kc190 : v189.toInt = 1 := by have h9 := c190; rw [xk_eq, xk_1] at h9; exact h9
            refine lv_iload_n hx hb dX7_rise_38 rfl (lv_at hl 1 rfl) ?_
            refine lv_aload_n hx hb dX7_rise_39 rfl (lv_at hl 3 rfl) ?_
            refine lv_iload_n hx hb dX7_rise_40 rfl (lv_at hl 4 rfl) ?_
            refine lv_iload hx hb dX7_rise_41 (lv_at hl 0 rfl) ?_
            obtain ⟨j193, hj193⟩ := wG_7 (cy := cy) (N := N) (T := T) (I := I) (Q := Q) (J := J) (hM.at 0 (by decide)) (hM.k 0 (by decide) rfl)
            refine vp_callSi (W.runV (As := [.int xp, .int y176]) (rest := [.int y177]) ⟨hx, hb, hml, hown, hts⟩ (c_X7_known l dC dI cy w L K N T Q I J xp y176 hM hp (xin_of hnn175 (by have kc := c178; simp only [xk_lt, xk_le, xk_0, xk_1, xk_2, xk_3, xk_4, xk_5, xk_6, xk_7, xk_8, xk_50] at kc; omega))) (cwV 2 hts gX7_rise_X7_known rfl rfl rfl (by decide +kernel) ⟨Nat.le_of_ble_eq_true rfl, Nat.le_of_ble_eq_true rfl⟩) ⟨mb_blind, va_recv hK hP (ci := 7) (q0 := j193) rfl hj193, fun U hU hW => ⟨rfl, mb_pre hP hK hU hW⟩⟩ rfl rfl hl.1 rfl (lv_room (Nat.le_of_ble_eq_true rfl)) dX7_rise_43 ⟨Nat.le_of_ble_eq_true rfl, Nat.le_of_ble_eq_true rfl⟩) (fun r192 hr192 => ?_)
            refine va_mmin hx hb (by rw [hml]; exact hl.1.symm) hown (hts (.methodLink RX7 105 Lib.Math.min.name) (by decide +kernel)) (hts (.static Lib.Math.min.name) (by decide +kernel)) (hts (.initialized "java/lang/Math") (by decide +kernel)) (hts _ (List.mem_of_getElem? (i := 6) rfl)) (Nat.le_of_ble_eq_true rfl) (Nat.le_of_ble_eq_true rfl) (Nat.le_of_ble_eq_true rfl) (Nat.le_of_ble_eq_true rfl) dX7_rise_46 ?_
            refine lv_topi (fun z194 ez194 => ?_)
            have tz194 : z194.toInt = min y177.toInt r192.toInt := (xmin_t ez194)
            refine lv_istore_n (lv' := [(3, .int z194), (4, .int y176), (2, .ref (w (21 + (5 * xp.toNatClampNeg + n174)))), (0, .ref (w 0)), (1, .int xp)]) hx hb dX7_rise_49 rfl hl (by decide) rfl (fun ls hl => ?_)
            obtain ⟨v195, ev195⟩ : ∃ y : Int32, y = y176 + Int32.ofInt 1 := ⟨_, rfl⟩
            refine lv_iinc (v := v195) (lv' := [(4, .int v195), (3, .int z194), (2, .ref (w (21 + (5 * xp.toNatClampNeg + n174)))), (0, .ref (w 0)), (1, .int xp)]) hx hb dX7_rise_50 hl (k := 1) rfl ev195.symm (by decide) rfl (fun ls hl => ?_)
            refine lv_goto (tgt := 17) hx hb dX7_rise_53 (by decide) ?_
            have tv195 : v195.toInt = y176.toInt + 1 := by rw [ev195, show y176 + Int32.ofInt 1 = y176 + 1 from rfl]; exact xinc (y := (5 : Int32)) (by rw [xk_lt, xk_5]; omega)
            exact ih175 _ _ _ (by omega) (by omega) (fun h9 => by by_cases q9 : ((n174 : Nat) : Int) < y176.toInt; (have := hiv175 q9; omega); have ey9 : y176 = nI n174 := (by rw [xk_eq, nI_toInt (by omega)]; omega); have hr9 := hr192 (by rw [ey9]; exact eln174); rw [ey9, nI_clamp (by omega)] at hr9; have := congrArg Int32.toInt hr9; omega)  (lv_sub hl [0, 1, 2, 3, 4] rfl)
    exact hLP175 _ _ _ _ (Nat.lt_succ_self _) (by decide) (fun h9 => absurd h9 (by rw [xk_0]; omega))  (lv_sub hl [0, 1, 2, 3, 4] rfl)
