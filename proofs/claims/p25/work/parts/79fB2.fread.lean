set_option maxHeartbeats 4000000 in
set_option maxRecDepth 100000 in
/-- endOf, exactly -/
theorem f_X7_endOf (l : Launch) (dC : Nat → ClassId) (dI : Nat → Nat → Nat) (cy : Nat → ClassId) (w : Nat → Nat) (L : List Nat) (K N : Nat → Nat) (T : Nat → Nat → Nat) (Q : Nat → Nat → Option Nat) (I J : Nat → Nat → Int32) (jrb : Nat) (xo : Int32) (σ : SG) (hM : MS w L K N T Q) (hjrb : jrb < 20) (h0 : 0 ≤ (I (w (21 + jrb)) 1).toInt) (h1 : (I (w (21 + jrb)) 1).toInt ≤ xo.toInt) (h2 : xo.toInt < (I (w (21 + jrb)) 2).toInt) (h3 : (I (w (21 + jrb)) 2).toInt ≤ (I (w (21 + jrb)) 1).toInt + 80) (hMR : MR w I J σ) : Met l yX7_endOf wsX7_endOf ({ frames := 1, cells := 0, slots := 0, locals := 24 }) (va_Pc [.ref (w (21 + jrb)), .int xo] (mB dC dI cy L (wF cy K N T I Q J))) (vp_Si (fun r => r = oEn σ jrb xo.toNatClampNeg)) 0 0 (fun _ => False) := by
  refine Met.ofW (cc := cX7_endOf) (maxL := 3) (ret := (some .int)) (by decide) rfl ?_
  intro p e s m args below meth c s₁ B hml hv
  obtain ⟨rfl, hP, hK⟩ := hv
  have hx := B.exec
  have hb := B.bytes
  have hr := B.returns
  have hts := atoms_spec (ws := wsX7_endOf) B.pre
  have hown : s.vm.findClass RX7 = some m.cls := findClass_of_methodNamed B.named
  have hlocks := B.notSynchronized
  have hi6 : ∀ w ∈ wsX60, w ∈ wsX7_endOf := by decide +kernel
  have hl := lv_entry ([.ref (w (21 + jrb)), .int xo]) (n := 3) (Nat.le_of_ble_eq_true rfl)
  rw [lg_entry_eq]
  generalize (lg_sl ([.ref (w (21 + jrb)), .int xo]) ++ List.replicate (3 - (lg_sl ([.ref (w (21 + jrb)), .int xo])).length) Slot.unset).toArray = ls at hl ⊢
  have hl : lv_has ls 3 [(0, .ref (w (21 + jrb))), (1, .int xo)] := hl
  refine lv_iload_n hx hb dX7_endOf_0 rfl (lv_at hl 1 rfl) ?_
  refine lv_iconst (v := 1) hx hb dX7_endOf_1 (by decide) ?_
  refine lv_iadd hx hb dX7_endOf_2 ?_
  refine lv_topi (fun v310001 ev310001 => ?_)
  have tv310001 : v310001.toInt = xo.toInt + 1 := by rw [ev310001]; have := xr_hi (I (w (21 + jrb)) 2); exact xaddk (by decide) (by omega) (by omega)
  refine lv_istore_n (lv' := [(2, .int v310001), (0, .ref (w (21 + jrb))), (1, .int xo)]) hx hb dX7_endOf_3 rfl hl (by decide) rfl (fun ls hl => ?_)
  refine wq_gen (fun Qz hQz => ?_)
  have hLP310002 : ∀ (n : Nat) (y310003 : Int32) (ls : Array Slot), ((I (w (21 + jrb)) 2).toInt - y310003.toInt).toNat < n → 0 ≤ y310003.toInt → (xo.toInt < y310003.toInt ∧ fU (pEn σ jrb xo.toNatClampNeg) (ze σ jrb - y310003.toNatClampNeg) y310003.toNatClampNeg = fU (pEn σ jrb xo.toNatClampNeg) (ze σ jrb - (xo.toNatClampNeg + 1)) (xo.toNatClampNeg + 1)) → lv_has ls 3 [(2, .int y310003), (0, .ref (w (21 + jrb))), (1, .int xo)] → W p l e (headSpec wsX7_endOf ({ frames := 1, cells := 0, slots := 0, locals := 24 })).room s m ([.ref (w (21 + jrb)), .int xo] : List Value).toArray below meth c s.heap [] 0 0 Qz (F0 m 4 ls []) := by
    intro n
    induction n with
    | zero => intro y310003 ls hms; exact absurd hms (Nat.not_lt_zero _)
    | succ n ih310002 =>
      intro y310003 ls hms hnn310002 hiv310002 hl
      obtain ⟨hiw, _⟩ := id hiv310002
      refine lv_iload_n hx hb dX7_endOf_4 rfl (lv_at hl 0 rfl) ?_
      refine lv_aload_n hx hb dX7_endOf_5 rfl (lv_at hl 1 rfl) ?_
      obtain ⟨j310004, hj310004⟩ := wG_6 (cy := cy) (N := N) (T := T) (I := I) (Q := Q) (J := J) (hM.lg hjrb).1 (hM.lg hjrb).2
      refine va_get (D := (dC, dI)) (ci := 6) (v := .int (I (w (21 + jrb)) 2)) (C := RX6) (T := TX6) (N := 7) hx hb hts hi6 hown hK hP j310004 hj310004 rfl 2 (by decide) (hts (.fieldLink RX7 89 "TallyLogsModel$Log" "end" "I") (by decide +kernel)) (fun _ h9 => h9) rfl dX7_endOf_6 ?_
      refine lv_topi (fun x310005 ex310005 => ?_)
      have sx310005 : x310005 = σ.2.1 jrb 2 := ex310005.trans (hMR.g hjrb (by decide) (by decide))
      have tx310005 : x310005.toInt = (I (w (21 + jrb)) 2).toInt := congrArg Int32.toInt ex310005
      refine lv_icmp_ge (tgt := 64) hx hb dX7_endOf_9 (by decide) (fun c310006 => ?_) (fun c310006 => ?_)
      · have kc310006 : x310005.toInt ≤ y310003.toInt := by have h9 := c310006; rw [xk_le] at h9; exact h9
        refine lv_iconst (v := 0) hx hb dX7_endOf_64 (by decide) ?_
        rw [hQz]
        exact W.iret (v := 0) hx hb hr (fun t ht hW => ⟨0, rfl, by show _ = _; unfold oEn; rw [← hiv310002.2, fU_end (by rw [hMR.ve hjrb, clT, clT]; omega)], ht⟩) (fun _ h => by cases h) dX7_endOf_65
      · have kc310006 : ¬ (x310005.toInt ≤ y310003.toInt) := by have h9 := c310006; rw [xk_le] at h9; exact h9
        refine lv_aload_n hx hb dX7_endOf_12 rfl (lv_at hl 1 rfl) ?_
        refine lv_iload_n hx hb dX7_endOf_13 rfl (lv_at hl 0 rfl) ?_
        refine lv_iconst (v := 1) hx hb dX7_endOf_14 (by decide) ?_
        obtain ⟨j310008, hj310008⟩ := wG_6 (cy := cy) (N := N) (T := T) (I := I) (Q := Q) (J := J) (hM.lg hjrb).1 (hM.lg hjrb).2
        refine vp_callSi (W.runV (As := [.int y310003, .int 1]) (rest := []) ⟨hx, hb, hml, hown, hts⟩ (f_X6_get l dC dI cy w L K N T Q I J jrb y310003 1 σ hM hjrb (by omega) (by omega) (by omega) (by omega) (by unfold vp_in; decide) hMR) (cwV 2 hts gX7_endOf_X6_get rfl rfl rfl (by decide +kernel) ⟨Nat.le_of_ble_eq_true rfl, Nat.le_of_ble_eq_true rfl⟩) ⟨mb_blind, va_recv hK hP (ci := 6) (q0 := j310008) rfl hj310008, fun U hU hW => ⟨rfl, mb_pre hP hK hU hW⟩⟩ rfl rfl hl.1 rfl (lv_room (Nat.le_of_ble_eq_true rfl)) dX7_endOf_15 ⟨Nat.le_of_ble_eq_true rfl, Nat.le_of_ble_eq_true rfl⟩) (fun r310007 hr310007 => ?_)
        rw [show (1 : Int32).toNatClampNeg = 1 by decide] at hr310007
        refine lv_if_le (tgt := 58) hx hb dX7_endOf_18 (by decide) (fun c310009 => ?_) (fun c310009 => ?_)
        · have kc310009 : r310007.toInt ≤ 0 := by have h9 := c310009; rw [xk_le, xk_0] at h9; exact h9
          obtain ⟨v310010, ev310010⟩ : ∃ y : Int32, y = y310003 + Int32.ofInt 1 := ⟨_, rfl⟩
          refine lv_iinc (v := v310010) (lv' := [(2, .int v310010), (0, .ref (w (21 + jrb))), (1, .int xo)]) hx hb dX7_endOf_58 hl (k := 0) rfl ev310010.symm (by decide) rfl (fun ls hl => ?_)
          refine lv_goto (tgt := 4) hx hb dX7_endOf_61 (by decide) ?_
          have tv310010 : v310010.toInt = y310003.toInt + 1 := by rw [ev310010, show y310003 + Int32.ofInt 1 = y310003 + 1 from rfl]; exact xinc (y := I (w (21 + jrb)) 2) (by rw [xk_lt]; omega)
          exact ih310002 _ _ (by omega) (by omega) (⟨by omega, by rw [clsucc (y := y310003) (by omega) tv310010, ← fU_step (by rw [hMR.ve hjrb, clT, clT]; omega) (fun q => by have q1 := (of_decide_eq_true q).1; rw [← hr310007] at q1; exact absurd ((xk_lt _ _).mp q1) (by have k9 := c310009; rw [xk_le, xk_0] at k9; rw [xk_0]; omega))]; exact hiv310002.2⟩)  (lv_sub hl [0, 1, 2] rfl)
        · have kc310009 : ¬ (r310007.toInt ≤ 0) := by have h9 := c310009; rw [xk_le, xk_0] at h9; exact h9
          refine lv_aload_n hx hb dX7_endOf_21 rfl (lv_at hl 1 rfl) ?_
          refine lv_iload_n hx hb dX7_endOf_22 rfl (lv_at hl 0 rfl) ?_
          refine lv_iconst (v := 2) hx hb dX7_endOf_23 (by decide) ?_
          obtain ⟨j310012, hj310012⟩ := wG_6 (cy := cy) (N := N) (T := T) (I := I) (Q := Q) (J := J) (hM.lg hjrb).1 (hM.lg hjrb).2
          refine vp_callSi (W.runV (As := [.int y310003, .int 2]) (rest := []) ⟨hx, hb, hml, hown, hts⟩ (f_X6_get l dC dI cy w L K N T Q I J jrb y310003 2 σ hM hjrb (by omega) (by omega) (by omega) (by omega) (by unfold vp_in; decide) hMR) (cwV 2 hts gX7_endOf_X6_get rfl rfl rfl (by decide +kernel) ⟨Nat.le_of_ble_eq_true rfl, Nat.le_of_ble_eq_true rfl⟩) ⟨mb_blind, va_recv hK hP (ci := 6) (q0 := j310012) rfl hj310012, fun U hU hW => ⟨rfl, mb_pre hP hK hU hW⟩⟩ rfl rfl hl.1 rfl (lv_room (Nat.le_of_ble_eq_true rfl)) dX7_endOf_24 ⟨Nat.le_of_ble_eq_true rfl, Nat.le_of_ble_eq_true rfl⟩) (fun r310011 hr310011 => ?_)
          rw [show (2 : Int32).toNatClampNeg = 2 by decide] at hr310011
          refine lv_aload_n hx hb dX7_endOf_27 rfl (lv_at hl 1 rfl) ?_
          refine lv_iload_n hx hb dX7_endOf_28 rfl (lv_at hl 2 rfl) ?_
          refine lv_iconst (v := 2) hx hb dX7_endOf_29 (by decide) ?_
          obtain ⟨j310014, hj310014⟩ := wG_6 (cy := cy) (N := N) (T := T) (I := I) (Q := Q) (J := J) (hM.lg hjrb).1 (hM.lg hjrb).2
          refine vp_callSi (W.runV (As := [.int xo, .int 2]) (rest := [.int r310011]) ⟨hx, hb, hml, hown, hts⟩ (f_X6_get l dC dI cy w L K N T Q I J jrb xo 2 σ hM hjrb (by omega) (by omega) (by omega) (by omega) (by unfold vp_in; decide) hMR) (cwV 2 hts gX7_endOf_X6_get rfl rfl rfl (by decide +kernel) ⟨Nat.le_of_ble_eq_true rfl, Nat.le_of_ble_eq_true rfl⟩) ⟨mb_blind, va_recv hK hP (ci := 6) (q0 := j310014) rfl hj310014, fun U hU hW => ⟨rfl, mb_pre hP hK hU hW⟩⟩ rfl rfl hl.1 rfl (lv_room (Nat.le_of_ble_eq_true rfl)) dX7_endOf_30 ⟨Nat.le_of_ble_eq_true rfl, Nat.le_of_ble_eq_true rfl⟩) (fun r310013 hr310013 => ?_)
          rw [show (2 : Int32).toNatClampNeg = 2 by decide] at hr310013
          refine lv_icmp_ne (tgt := 58) hx hb dX7_endOf_33 (by decide) (fun c310015 => ?_) (fun c310015 => ?_)
          · have kc310015 : ¬ (r310011.toInt = r310013.toInt) := by have h9 := c310015; rw [xk_eq] at h9; exact h9
            obtain ⟨v310016, ev310016⟩ : ∃ y : Int32, y = y310003 + Int32.ofInt 1 := ⟨_, rfl⟩
            refine lv_iinc (v := v310016) (lv' := [(2, .int v310016), (0, .ref (w (21 + jrb))), (1, .int xo)]) hx hb dX7_endOf_58 hl (k := 0) rfl ev310016.symm (by decide) rfl (fun ls hl => ?_)
            refine lv_goto (tgt := 4) hx hb dX7_endOf_61 (by decide) ?_
            have tv310016 : v310016.toInt = y310003.toInt + 1 := by rw [ev310016, show y310003 + Int32.ofInt 1 = y310003 + 1 from rfl]; exact xinc (y := I (w (21 + jrb)) 2) (by rw [xk_lt]; omega)
            exact ih310002 _ _ (by omega) (by omega) (⟨by omega, by rw [clsucc (y := y310003) (by omega) tv310016, ← fU_step (by rw [hMR.ve hjrb, clT, clT]; omega) (fun q => c310015 (by rw [hr310011, hr310013]; exact (of_decide_eq_true q).2.1))]; exact hiv310002.2⟩)  (lv_sub hl [0, 1, 2] rfl)
          · have kc310015 : r310011.toInt = r310013.toInt := by have h9 := c310015; rw [xk_eq] at h9; exact h9
            refine lv_aload_n hx hb dX7_endOf_36 rfl (lv_at hl 1 rfl) ?_
            refine lv_iload_n hx hb dX7_endOf_37 rfl (lv_at hl 0 rfl) ?_
            refine lv_iconst (v := 3) hx hb dX7_endOf_38 (by decide) ?_
            obtain ⟨j310018, hj310018⟩ := wG_6 (cy := cy) (N := N) (T := T) (I := I) (Q := Q) (J := J) (hM.lg hjrb).1 (hM.lg hjrb).2
            refine vp_callSi (W.runV (As := [.int y310003, .int 3]) (rest := []) ⟨hx, hb, hml, hown, hts⟩ (f_X6_get l dC dI cy w L K N T Q I J jrb y310003 3 σ hM hjrb (by omega) (by omega) (by omega) (by omega) (by unfold vp_in; decide) hMR) (cwV 2 hts gX7_endOf_X6_get rfl rfl rfl (by decide +kernel) ⟨Nat.le_of_ble_eq_true rfl, Nat.le_of_ble_eq_true rfl⟩) ⟨mb_blind, va_recv hK hP (ci := 6) (q0 := j310018) rfl hj310018, fun U hU hW => ⟨rfl, mb_pre hP hK hU hW⟩⟩ rfl rfl hl.1 rfl (lv_room (Nat.le_of_ble_eq_true rfl)) dX7_endOf_39 ⟨Nat.le_of_ble_eq_true rfl, Nat.le_of_ble_eq_true rfl⟩) (fun r310017 hr310017 => ?_)
            rw [show (3 : Int32).toNatClampNeg = 3 by decide] at hr310017
            refine lv_aload_n hx hb dX7_endOf_42 rfl (lv_at hl 1 rfl) ?_
            refine lv_iload_n hx hb dX7_endOf_43 rfl (lv_at hl 2 rfl) ?_
            refine lv_iconst (v := 3) hx hb dX7_endOf_44 (by decide) ?_
            obtain ⟨j310020, hj310020⟩ := wG_6 (cy := cy) (N := N) (T := T) (I := I) (Q := Q) (J := J) (hM.lg hjrb).1 (hM.lg hjrb).2
            refine vp_callSi (W.runV (As := [.int xo, .int 3]) (rest := [.int r310017]) ⟨hx, hb, hml, hown, hts⟩ (f_X6_get l dC dI cy w L K N T Q I J jrb xo 3 σ hM hjrb (by omega) (by omega) (by omega) (by omega) (by unfold vp_in; decide) hMR) (cwV 2 hts gX7_endOf_X6_get rfl rfl rfl (by decide +kernel) ⟨Nat.le_of_ble_eq_true rfl, Nat.le_of_ble_eq_true rfl⟩) ⟨mb_blind, va_recv hK hP (ci := 6) (q0 := j310020) rfl hj310020, fun U hU hW => ⟨rfl, mb_pre hP hK hU hW⟩⟩ rfl rfl hl.1 rfl (lv_room (Nat.le_of_ble_eq_true rfl)) dX7_endOf_45 ⟨Nat.le_of_ble_eq_true rfl, Nat.le_of_ble_eq_true rfl⟩) (fun r310019 hr310019 => ?_)
            rw [show (3 : Int32).toNatClampNeg = 3 by decide] at hr310019
            refine lv_icmp_ne (tgt := 58) hx hb dX7_endOf_48 (by decide) (fun c310021 => ?_) (fun c310021 => ?_)
            · have kc310021 : ¬ (r310017.toInt = r310019.toInt) := by have h9 := c310021; rw [xk_eq] at h9; exact h9
              obtain ⟨v310022, ev310022⟩ : ∃ y : Int32, y = y310003 + Int32.ofInt 1 := ⟨_, rfl⟩
              refine lv_iinc (v := v310022) (lv' := [(2, .int v310022), (0, .ref (w (21 + jrb))), (1, .int xo)]) hx hb dX7_endOf_58 hl (k := 0) rfl ev310022.symm (by decide) rfl (fun ls hl => ?_)
              refine lv_goto (tgt := 4) hx hb dX7_endOf_61 (by decide) ?_
              have tv310022 : v310022.toInt = y310003.toInt + 1 := by rw [ev310022, show y310003 + Int32.ofInt 1 = y310003 + 1 from rfl]; exact xinc (y := I (w (21 + jrb)) 2) (by rw [xk_lt]; omega)
              exact ih310002 _ _ (by omega) (by omega) (⟨by omega, by rw [clsucc (y := y310003) (by omega) tv310022, ← fU_step (by rw [hMR.ve hjrb, clT, clT]; omega) (fun q => c310021 (by rw [hr310017, hr310019]; exact (of_decide_eq_true q).2.2))]; exact hiv310002.2⟩)  (lv_sub hl [0, 1, 2] rfl)
            · have kc310021 : r310017.toInt = r310019.toInt := by have h9 := c310021; rw [xk_eq] at h9; exact h9
              refine lv_aload_n hx hb dX7_endOf_51 rfl (lv_at hl 1 rfl) ?_
              refine lv_iload_n hx hb dX7_endOf_52 rfl (lv_at hl 0 rfl) ?_
              refine lv_iconst (v := 1) hx hb dX7_endOf_53 (by decide) ?_
              obtain ⟨j310024, hj310024⟩ := wG_6 (cy := cy) (N := N) (T := T) (I := I) (Q := Q) (J := J) (hM.lg hjrb).1 (hM.lg hjrb).2
              refine vp_callSi (W.runV (As := [.int y310003, .int 1]) (rest := []) ⟨hx, hb, hml, hown, hts⟩ (f_X6_get l dC dI cy w L K N T Q I J jrb y310003 1 σ hM hjrb (by omega) (by omega) (by omega) (by omega) (by unfold vp_in; decide) hMR) (cwV 2 hts gX7_endOf_X6_get rfl rfl rfl (by decide +kernel) ⟨Nat.le_of_ble_eq_true rfl, Nat.le_of_ble_eq_true rfl⟩) ⟨mb_blind, va_recv hK hP (ci := 6) (q0 := j310024) rfl hj310024, fun U hU hW => ⟨rfl, mb_pre hP hK hU hW⟩⟩ rfl rfl hl.1 rfl (lv_room (Nat.le_of_ble_eq_true rfl)) dX7_endOf_54 ⟨Nat.le_of_ble_eq_true rfl, Nat.le_of_ble_eq_true rfl⟩) (fun r310023 hr310023 => ?_)
              rw [show (1 : Int32).toNatClampNeg = 1 by decide] at hr310023
              rw [hQz]
              exact W.iret (v := r310023) hx hb hr (fun t ht hW => ⟨r310023, rfl, by show _ = _; unfold oEn; rw [← hiv310002.2, fU_hit (by rw [hMR.ve hjrb, clT, clT]; omega) (decide_eq_true ⟨by rw [← hr310007, xk_lt, xk_0]; have k9 := c310009; rw [xk_le, xk_0] at k9; omega, by rw [← hr310011, ← hr310013]; exact c310015, by rw [← hr310017, ← hr310019]; exact c310021⟩)]; exact hr310023, ht⟩) (fun _ h => by cases h) dX7_endOf_57
  exact hLP310002 _ _ _ (Nat.lt_succ_self _) (by omega) (⟨by omega, by rw [clsucc (y := xo) (by omega) tv310001]⟩)  (lv_sub hl [0, 1, 2] rfl)
theorem xcl9 {x : Int32} (h : 0 ≤ x.toInt) : x = Int32.ofNat x.toNatClampNeg := by
  obtain ⟨j, hj, e⟩ := nI_of (x := x) (by rw [xk_lt, xk_0]; omega)
  rw [e, nI_clamp hj]; rfl
set_option maxHeartbeats 4000000 in
set_option maxRecDepth 100000 in
/-- firstOpen, exactly -/
theorem f_X7_firstOpen (l : Launch) (dC : Nat → ClassId) (dI : Nat → Nat → Nat) (cy : Nat → ClassId) (w : Nat → Nat) (L : List Nat) (K N : Nat → Nat) (T : Nat → Nat → Nat) (Q : Nat → Nat → Option Nat) (I J : Nat → Nat → Int32) (jrb : Nat) (σ : SG) (hM : MS w L K N T Q) (hjrb : jrb < 20) (h0 : 0 ≤ (I (w (21 + jrb)) 1).toInt) (h3 : (I (w (21 + jrb)) 2).toInt ≤ (I (w (21 + jrb)) 1).toInt + 80) (hMR : MR w I J σ) : Met l yX7_firstOpen wsX7_firstOpen ({ frames := 2, cells := 0, slots := 0, locals := 48 }) (va_Pc [.ref (w (21 + jrb))] (mB dC dI cy L (wF cy K N T I Q J))) (vp_Si (fun r => r = oFo σ jrb)) 0 0 (fun _ => False) := by
  refine Met.ofW (cc := cX7_firstOpen) (maxL := 2) (ret := (some .int)) (by decide) rfl ?_
  intro p e s m args below meth c s₁ B hml hv
  obtain ⟨rfl, hP, hK⟩ := hv
  have hx := B.exec
  have hb := B.bytes
  have hr := B.returns
  have hts := atoms_spec (ws := wsX7_firstOpen) B.pre
  have hown : s.vm.findClass RX7 = some m.cls := findClass_of_methodNamed B.named
  have hlocks := B.notSynchronized
  have hi6 : ∀ w ∈ wsX60, w ∈ wsX7_firstOpen := by decide +kernel
  have hl := lv_entry ([.ref (w (21 + jrb))]) (n := 2) (Nat.le_of_ble_eq_true rfl)
  rw [lg_entry_eq]
  generalize (lg_sl ([.ref (w (21 + jrb))]) ++ List.replicate (2 - (lg_sl ([.ref (w (21 + jrb))])).length) Slot.unset).toArray = ls at hl ⊢
  have hl : lv_has ls 2 [(0, .ref (w (21 + jrb)))] := hl
  refine lv_aload_n hx hb dX7_firstOpen_0 rfl (lv_at hl 0 rfl) ?_
  obtain ⟨j310025, hj310025⟩ := wG_6 (cy := cy) (N := N) (T := T) (I := I) (Q := Q) (J := J) (hM.lg hjrb).1 (hM.lg hjrb).2
  refine va_get (D := (dC, dI)) (ci := 6) (v := .int (I (w (21 + jrb)) 1)) (C := RX6) (T := TX6) (N := 7) hx hb hts hi6 hown hK hP j310025 hj310025 rfl 1 (by decide) (hts (.fieldLink RX7 134 "TallyLogsModel$Log" "start" "I") (by decide +kernel)) (fun _ h9 => h9) rfl dX7_firstOpen_1 ?_
  refine lv_topi (fun x310026 ex310026 => ?_)
  have sx310026 : x310026 = σ.2.1 jrb 1 := ex310026.trans (hMR.g hjrb (by decide) (by decide))
  have tx310026 : x310026.toInt = (I (w (21 + jrb)) 1).toInt := congrArg Int32.toInt ex310026
  refine lv_istore_n (lv' := [(1, .int x310026), (0, .ref (w (21 + jrb)))]) hx hb dX7_firstOpen_4 rfl hl (by decide) rfl (fun ls hl => ?_)
  refine wq_gen (fun Qz hQz => ?_)
  have hLP310027 : ∀ (n : Nat) (y310028 : Int32) (ls : Array Slot), ((I (w (21 + jrb)) 2).toInt - y310028.toInt).toNat < n → 0 ≤ y310028.toInt → ((I (w (21 + jrb)) 1).toInt ≤ y310028.toInt ∧ fU (pFo σ jrb) (ze σ jrb - y310028.toNatClampNeg) y310028.toNatClampNeg = fU (pFo σ jrb) (ze σ jrb - zb σ jrb) (zb σ jrb)) → lv_has ls 2 [(1, .int y310028), (0, .ref (w (21 + jrb)))] → W p l e (headSpec wsX7_firstOpen ({ frames := 2, cells := 0, slots := 0, locals := 48 })).room s m ([.ref (w (21 + jrb))] : List Value).toArray below meth c s.heap [] 0 0 Qz (F0 m 5 ls []) := by
    intro n
    induction n with
    | zero => intro y310028 ls hms; exact absurd hms (Nat.not_lt_zero _)
    | succ n ih310027 =>
      intro y310028 ls hms hnn310027 hiv310027 hl
      obtain ⟨hiw, _⟩ := id hiv310027
      refine lv_iload_n hx hb dX7_firstOpen_5 rfl (lv_at hl 0 rfl) ?_
      refine lv_aload_n hx hb dX7_firstOpen_6 rfl (lv_at hl 1 rfl) ?_
      obtain ⟨j310029, hj310029⟩ := wG_6 (cy := cy) (N := N) (T := T) (I := I) (Q := Q) (J := J) (hM.lg hjrb).1 (hM.lg hjrb).2
      refine va_get (D := (dC, dI)) (ci := 6) (v := .int (I (w (21 + jrb)) 2)) (C := RX6) (T := TX6) (N := 7) hx hb hts hi6 hown hK hP j310029 hj310029 rfl 2 (by decide) (hts (.fieldLink RX7 89 "TallyLogsModel$Log" "end" "I") (by decide +kernel)) (fun _ h9 => h9) rfl dX7_firstOpen_7 ?_
      refine lv_topi (fun x310030 ex310030 => ?_)
      have sx310030 : x310030 = σ.2.1 jrb 2 := ex310030.trans (hMR.g hjrb (by decide) (by decide))
      have tx310030 : x310030.toInt = (I (w (21 + jrb)) 2).toInt := congrArg Int32.toInt ex310030
      refine lv_icmp_ge (tgt := 49) hx hb dX7_firstOpen_10 (by decide) (fun c310031 => ?_) (fun c310031 => ?_)
      · have kc310031 : x310030.toInt ≤ y310028.toInt := by have h9 := c310031; rw [xk_le] at h9; exact h9
        refine lv_aload_n hx hb dX7_firstOpen_49 rfl (lv_at hl 1 rfl) ?_
        obtain ⟨j310032, hj310032⟩ := wG_6 (cy := cy) (N := N) (T := T) (I := I) (Q := Q) (J := J) (hM.lg hjrb).1 (hM.lg hjrb).2
        refine va_get (D := (dC, dI)) (ci := 6) (v := .int (I (w (21 + jrb)) 2)) (C := RX6) (T := TX6) (N := 7) hx hb hts hi6 hown hK hP j310032 hj310032 rfl 2 (by decide) (hts (.fieldLink RX7 89 "TallyLogsModel$Log" "end" "I") (by decide +kernel)) (fun _ h9 => h9) rfl dX7_firstOpen_50 ?_
        refine lv_topi (fun x310033 ex310033 => ?_)
        have sx310033 : x310033 = σ.2.1 jrb 2 := ex310033.trans (hMR.g hjrb (by decide) (by decide))
        have tx310033 : x310033.toInt = (I (w (21 + jrb)) 2).toInt := congrArg Int32.toInt ex310033
        rw [hQz]
        exact W.iret (v := x310033) hx hb hr (fun t ht hW => ⟨x310033, rfl, by show _ = _; unfold oFo; rw [← hiv310027.2, fU_end (by rw [hMR.ve hjrb, clT, clT]; omega)]; rw [ex310033]; exact hMR.g hjrb (by decide) (by decide), ht⟩) (fun _ h => by cases h) dX7_firstOpen_53
      · have kc310031 : ¬ (x310030.toInt ≤ y310028.toInt) := by have h9 := c310031; rw [xk_le] at h9; exact h9
        refine lv_aload_n hx hb dX7_firstOpen_13 rfl (lv_at hl 1 rfl) ?_
        refine lv_iload_n hx hb dX7_firstOpen_14 rfl (lv_at hl 0 rfl) ?_
        refine lv_iconst (v := 1) hx hb dX7_firstOpen_15 (by decide) ?_
        obtain ⟨j310035, hj310035⟩ := wG_6 (cy := cy) (N := N) (T := T) (I := I) (Q := Q) (J := J) (hM.lg hjrb).1 (hM.lg hjrb).2
        refine vp_callSi (W.runV (As := [.int y310028, .int 1]) (rest := []) ⟨hx, hb, hml, hown, hts⟩ (f_X6_get l dC dI cy w L K N T Q I J jrb y310028 1 σ hM hjrb (by omega) (by omega) (by omega) (by omega) (by unfold vp_in; decide) hMR) (cwV 2 hts gX7_firstOpen_X6_get rfl rfl rfl (by decide +kernel) ⟨Nat.le_of_ble_eq_true rfl, Nat.le_of_ble_eq_true rfl⟩) ⟨mb_blind, va_recv hK hP (ci := 6) (q0 := j310035) rfl hj310035, fun U hU hW => ⟨rfl, mb_pre hP hK hU hW⟩⟩ rfl rfl hl.1 rfl (lv_room (Nat.le_of_ble_eq_true rfl)) dX7_firstOpen_16 ⟨Nat.le_of_ble_eq_true rfl, Nat.le_of_ble_eq_true rfl⟩) (fun r310034 hr310034 => ?_)
        rw [show (1 : Int32).toNatClampNeg = 1 by decide] at hr310034
        refine lv_if_ne (tgt := 43) hx hb dX7_firstOpen_19 (by decide) (fun c310036 => ?_) (fun c310036 => ?_)
        · have kc310036 : ¬ (r310034.toInt = 0) := by have h9 := c310036; rw [xk_eq, xk_0] at h9; exact h9
          obtain ⟨v310037, ev310037⟩ : ∃ y : Int32, y = y310028 + Int32.ofInt 1 := ⟨_, rfl⟩
          refine lv_iinc (v := v310037) (lv' := [(1, .int v310037), (0, .ref (w (21 + jrb)))]) hx hb dX7_firstOpen_43 hl (k := 0) rfl ev310037.symm (by decide) rfl (fun ls hl => ?_)
          refine lv_goto (tgt := 5) hx hb dX7_firstOpen_46 (by decide) ?_
          have tv310037 : v310037.toInt = y310028.toInt + 1 := by rw [ev310037, show y310028 + Int32.ofInt 1 = y310028 + 1 from rfl]; exact xinc (y := I (w (21 + jrb)) 2) (by rw [xk_lt]; omega)
          exact ih310027 _ _ (by omega) (by omega) (⟨by omega, by rw [clsucc (y := y310028) (by omega) tv310037, ← fU_step (by rw [hMR.ve hjrb, clT, clT]; omega) (fun q => c310036 (by rw [hr310034]; exact (of_decide_eq_true q).1))]; exact hiv310027.2⟩)  (lv_sub hl [0, 1] rfl)
        · have kc310036 : r310034.toInt = 0 := by have h9 := c310036; rw [xk_eq, xk_0] at h9; exact h9
          refine lv_aload_n hx hb dX7_firstOpen_22 rfl (lv_at hl 1 rfl) ?_
          refine lv_iload_n hx hb dX7_firstOpen_23 rfl (lv_at hl 0 rfl) ?_
          refine lv_bipush (v := 7) hx hb dX7_firstOpen_24 (by decide) ?_
          obtain ⟨j310039, hj310039⟩ := wG_6 (cy := cy) (N := N) (T := T) (I := I) (Q := Q) (J := J) (hM.lg hjrb).1 (hM.lg hjrb).2
          refine vp_callSi (W.runV (As := [.int y310028, .int 7]) (rest := []) ⟨hx, hb, hml, hown, hts⟩ (f_X6_get l dC dI cy w L K N T Q I J jrb y310028 7 σ hM hjrb (by omega) (by omega) (by omega) (by omega) (by unfold vp_in; decide) hMR) (cwV 2 hts gX7_firstOpen_X6_get rfl rfl rfl (by decide +kernel) ⟨Nat.le_of_ble_eq_true rfl, Nat.le_of_ble_eq_true rfl⟩) ⟨mb_blind, va_recv hK hP (ci := 6) (q0 := j310039) rfl hj310039, fun U hU hW => ⟨rfl, mb_pre hP hK hU hW⟩⟩ rfl rfl hl.1 rfl (lv_room (Nat.le_of_ble_eq_true rfl)) dX7_firstOpen_26 ⟨Nat.le_of_ble_eq_true rfl, Nat.le_of_ble_eq_true rfl⟩) (fun r310038 hr310038 => ?_)
          rw [show (7 : Int32).toNatClampNeg = 7 by decide] at hr310038
          refine lv_iconst (v := 1) hx hb dX7_firstOpen_29 (by decide) ?_
          refine lv_icmp_ne (tgt := 43) hx hb dX7_firstOpen_30 (by decide) (fun c310040 => ?_) (fun c310040 => ?_)
          · have kc310040 : ¬ (r310038.toInt = 1) := by have h9 := c310040; rw [xk_eq, xk_1] at h9; exact h9
            obtain ⟨v310041, ev310041⟩ : ∃ y : Int32, y = y310028 + Int32.ofInt 1 := ⟨_, rfl⟩
            refine lv_iinc (v := v310041) (lv' := [(1, .int v310041), (0, .ref (w (21 + jrb)))]) hx hb dX7_firstOpen_43 hl (k := 0) rfl ev310041.symm (by decide) rfl (fun ls hl => ?_)
            refine lv_goto (tgt := 5) hx hb dX7_firstOpen_46 (by decide) ?_
            have tv310041 : v310041.toInt = y310028.toInt + 1 := by rw [ev310041, show y310028 + Int32.ofInt 1 = y310028 + 1 from rfl]; exact xinc (y := I (w (21 + jrb)) 2) (by rw [xk_lt]; omega)
            exact ih310027 _ _ (by omega) (by omega) (⟨by omega, by rw [clsucc (y := y310028) (by omega) tv310041, ← fU_step (by rw [hMR.ve hjrb, clT, clT]; omega) (fun q => c310040 (by rw [hr310038]; exact (of_decide_eq_true q).2.1))]; exact hiv310027.2⟩)  (lv_sub hl [0, 1] rfl)
          · have kc310040 : r310038.toInt = 1 := by have h9 := c310040; rw [xk_eq, xk_1] at h9; exact h9
            refine lv_aload_n hx hb dX7_firstOpen_33 rfl (lv_at hl 1 rfl) ?_
            refine lv_iload_n hx hb dX7_firstOpen_34 rfl (lv_at hl 0 rfl) ?_
            refine vp_callSi (W.runS (As := [.ref (w (21 + jrb)), .int y310028]) (rest := []) ⟨hx, hb, hml, hown, hts⟩ (f_X7_endOf l dC dI cy w L K N T Q I J jrb y310028 σ hM hjrb (by omega) (by omega) (by omega) (by omega) hMR) (va_cwS 2 hts gX7_firstOpen_X7_endOf rfl rfl rfl (by decide +kernel) ⟨Nat.le_of_ble_eq_true rfl, Nat.le_of_ble_eq_true rfl⟩) ⟨mb_blind, fun U hU hW => ⟨rfl, mb_pre hP hK hU hW⟩⟩ rfl rfl hl.1 rfl (lv_room (Nat.le_of_ble_eq_true rfl)) dX7_firstOpen_35 ⟨Nat.le_of_ble_eq_true rfl, Nat.le_of_ble_eq_true rfl⟩) (fun r310042 hr310042 => ?_)
            refine lv_if_ne (tgt := 43) hx hb dX7_firstOpen_38 (by decide) (fun c310043 => ?_) (fun c310043 => ?_)
            · have kc310043 : ¬ (r310042.toInt = 0) := by have h9 := c310043; rw [xk_eq, xk_0] at h9; exact h9
              obtain ⟨v310044, ev310044⟩ : ∃ y : Int32, y = y310028 + Int32.ofInt 1 := ⟨_, rfl⟩
              refine lv_iinc (v := v310044) (lv' := [(1, .int v310044), (0, .ref (w (21 + jrb)))]) hx hb dX7_firstOpen_43 hl (k := 0) rfl ev310044.symm (by decide) rfl (fun ls hl => ?_)
              refine lv_goto (tgt := 5) hx hb dX7_firstOpen_46 (by decide) ?_
              have tv310044 : v310044.toInt = y310028.toInt + 1 := by rw [ev310044, show y310028 + Int32.ofInt 1 = y310028 + 1 from rfl]; exact xinc (y := I (w (21 + jrb)) 2) (by rw [xk_lt]; omega)
              exact ih310027 _ _ (by omega) (by omega) (⟨by omega, by rw [clsucc (y := y310028) (by omega) tv310044, ← fU_step (by rw [hMR.ve hjrb, clT, clT]; omega) (fun q => c310043 (by rw [hr310042]; exact (of_decide_eq_true q).2.2))]; exact hiv310027.2⟩)  (lv_sub hl [0, 1] rfl)
            · have kc310043 : r310042.toInt = 0 := by have h9 := c310043; rw [xk_eq, xk_0] at h9; exact h9
              refine lv_iload_n hx hb dX7_firstOpen_41 rfl (lv_at hl 0 rfl) ?_
              rw [hQz]
              exact W.iret (v := y310028) hx hb hr (fun t ht hW => ⟨y310028, rfl, by show _ = _; unfold oFo; rw [← hiv310027.2, fU_hit (by rw [hMR.ve hjrb, clT, clT]; omega) (decide_eq_true ⟨by rw [← hr310034]; exact c310036, by rw [← hr310038]; exact c310040, by rw [← hr310042]; exact c310043⟩)]; show _ = nI _; rw [nI, ← xcl9 (by omega)], ht⟩) (fun _ h => by cases h) dX7_firstOpen_42
  exact hLP310027 _ _ _ (Nat.lt_succ_self _) (by omega) (⟨by omega, by rw [hMR.vb hjrb, ex310026]⟩)  (lv_sub hl [0, 1] rfl)
set_option maxHeartbeats 4000000 in
set_option maxRecDepth 100000 in
/-- isReplica, exactly -/
theorem f_X7_isReplica (l : Launch) (dC : Nat → ClassId) (dI : Nat → Nat → Nat) (cy : Nat → ClassId) (w : Nat → Nat) (L : List Nat) (K N : Nat → Nat) (T : Nat → Nat → Nat) (Q : Nat → Nat → Option Nat) (I J : Nat → Nat → Int32) (xn : Int32) (xp : Int32) (hM : MS w L K N T Q) : Met l yX7_isReplica wsX7_isReplica ({ frames := 2, cells := 0, slots := 0, locals := 50 }) (va_Pc [.ref (w 0), .int xn, .int xp] (mB dC dI cy L (wF cy K N T I Q J))) (vp_Si (fun r => r = sp_ir (J (w 2)) (J (w 3)) xn xp)) 0 0 (fun _ => False) := by
  refine Met.ofW (cc := cX7_isReplica) (maxL := 3) (ret := (some .boolean)) (by decide) rfl ?_
  intro p e s m args below meth c s₁ B hml hv
  obtain ⟨rfl, hP, hK⟩ := hv
  have hx := B.exec
  have hb := B.bytes
  have hr := B.returns
  have hts := atoms_spec (ws := wsX7_isReplica) B.pre
  have hown : s.vm.findClass RX7 = some m.cls := findClass_of_methodNamed B.named
  have hlocks := B.notSynchronized
  have hi7 : ∀ w ∈ wsX70, w ∈ wsX7_isReplica := by decide +kernel
  have hl := lv_entry ([.ref (w 0), .int xn, .int xp]) (n := 3) (Nat.le_of_ble_eq_true rfl)
  rw [lg_entry_eq]
  generalize (lg_sl ([.ref (w 0), .int xn, .int xp]) ++ List.replicate (3 - (lg_sl ([.ref (w 0), .int xn, .int xp])).length) Slot.unset).toArray = ls at hl ⊢
  have hl : lv_has ls 3 [(0, .ref (w 0)), (1, .int xn), (2, .int xp)] := hl
  refine lv_aload_n hx hb dX7_isReplica_0 rfl (lv_at hl 0 rfl) ?_
  refine lv_iload_n hx hb dX7_isReplica_1 rfl (lv_at hl 2 rfl) ?_
  obtain ⟨j310046, hj310046⟩ := wG_7 (cy := cy) (N := N) (T := T) (I := I) (Q := Q) (J := J) (hM.at 0 (by decide)) (hM.k 0 (by decide) rfl)
  refine vp_callSi (W.runV (As := [.int xp]) (rest := []) ⟨hx, hb, hml, hown, hts⟩ (c_X7_isThere l dC dI cy w L K N T Q I J xp hM) (cwV 1 hts gX7_isReplica_X7_isThere rfl rfl rfl (by decide +kernel) ⟨Nat.le_of_ble_eq_true rfl, Nat.le_of_ble_eq_true rfl⟩) ⟨mb_blind, va_recv hK hP (ci := 7) (q0 := j310046) rfl hj310046, fun U hU hW => ⟨rfl, mb_pre hP hK hU hW⟩⟩ rfl rfl hl.1 rfl (lv_room (Nat.le_of_ble_eq_true rfl)) dX7_isReplica_2 ⟨Nat.le_of_ble_eq_true rfl, Nat.le_of_ble_eq_true rfl⟩) (fun r310045 hr310045 => ?_)
  refine lv_if_eq (tgt := 38) hx hb dX7_isReplica_5 (by decide) (fun c310047 => ?_) (fun c310047 => ?_)
  · have kc310047 : r310045.toInt = 0 := by have h9 := c310047; rw [xk_eq, xk_0] at h9; exact h9
    refine lv_iconst (v := 0) hx hb dX7_isReplica_38 (by decide) ?_
    exact W.zret (v := 0) hx hb hr (by decide) (fun t ht hW => ⟨0, rfl, by show _ = _; rw [sp_ir, if_pos (by rw [← hr310045]; exact c310047)], ht⟩) (fun _ h => by cases h) dX7_isReplica_39
  · have hth310048 := sp_it1 (by rw [← hr310045]; exact c310047)
    have kc310047 : ¬ (r310045.toInt = 0) := by have h9 := c310047; rw [xk_eq, xk_0] at h9; exact h9
    refine lv_iload_n hx hb dX7_isReplica_8 rfl (lv_at hl 1 rfl) ?_
    refine lv_i2l (v := xn.toInt64) hx hb dX7_isReplica_9 rfl ?_
    refine lv_lconst (v := 0) hx hb dX7_isReplica_10 (by decide) ?_
    refine lv_ldc2 hx hb hown (hts (.constantLong RX7 74 4) (by decide +kernel)) dX7_isReplica_11 ?_
    refine vp_callSi (W.runS (As := [.long xn.toInt64, .long 0, .long 4]) (rest := []) ⟨hx, hb, hml, hown, hts⟩ (c_X7_in l xn.toInt64 0 4) (va_cwS 3 hts gX7_isReplica_X7_in rfl rfl rfl (by decide +kernel) ⟨Nat.le_of_ble_eq_true rfl, Nat.le_of_ble_eq_true rfl⟩) preEq rfl rfl hl.1 rfl (lv_room (Nat.le_of_ble_eq_true rfl)) dX7_isReplica_14 ⟨Nat.le_of_ble_eq_true rfl, Nat.le_of_ble_eq_true rfl⟩) (fun r310049 hr310049 => ?_)
    subst hr310049
    refine lv_if_eq (tgt := 38) hx hb dX7_isReplica_17 (by decide) (fun c310050 => ?_) (fun c310050 => ?_)
    · refine lv_iconst (v := 0) hx hb dX7_isReplica_38 (by decide) ?_
      exact W.zret (v := 0) hx hb hr (by decide) (fun t ht hW => ⟨0, rfl, by show _ = _; rw [sp_ir, if_neg (fun q => c310047 (by rw [hr310045]; exact q)), if_pos c310050], ht⟩) (fun _ h => by cases h) dX7_isReplica_39
    · have hin310051 : vp_in xn 5 := xin_sp c310050 (by decide)
      refine lv_aload_n hx hb dX7_isReplica_20 rfl (lv_at hl 0 rfl) ?_
      obtain ⟨j310052, hj310052⟩ := wG_7 (cy := cy) (N := N) (T := T) (I := I) (Q := Q) (J := J) (hM.at 0 (by decide)) (hM.k 0 (by decide) rfl)
      refine va_get (D := (dC, dI)) (ci := 7) (v := .ref (T (w 0) 2)) (C := RX7) (T := TX7) (N := 18) hx hb hts hi7 hown hK hP j310052 hj310052 rfl 2 (by decide) (hts (.fieldLink RX7 18 "TallyLogsModel" "replicas" "[I") (by decide +kernel)) (fun _ h9 => h9) rfl dX7_isReplica_21 ?_
      refine W.eq (g2 := F0 m 24 ls [.ref (w 3)]) (by rw [hM.t 2 (by decide)]) ?_
      refine lv_iload_n hx hb dX7_isReplica_24 rfl (lv_at hl 2 rfl) ?_
      obtain ⟨j310053, hj310053⟩ := wG_20 (cy := cy) (N := N) (T := T) (I := I) (Q := Q) (J := J) (hM.at 3 (by decide)) (hM.k 3 (by decide) rfl)
      refine va_iald hx hb hK hP j310053 1 hj310053 rfl (hM.inN (n := 4) 3 (by decide) rfl rfl hth310048.1) dX7_isReplica_25 ?_
      refine lv_topi (fun x310054 ex310054 => ?_)
      refine lv_iload_n hx hb dX7_isReplica_26 rfl (lv_at hl 1 rfl) ?_
      refine lv_ishr hx hb dX7_isReplica_27 ?_
      refine lv_topi (fun v310055 ev310055 => ?_)
      refine lv_iconst (v := 1) hx hb dX7_isReplica_28 (by decide) ?_
      refine lv_iand hx hb dX7_isReplica_29 ?_
      refine lv_topi (fun v310056 ev310056 => ?_)
      refine lv_iconst (v := 1) hx hb dX7_isReplica_30 (by decide) ?_
      refine lv_icmp_ne (tgt := 38) hx hb dX7_isReplica_31 (by decide) (fun c310057 => ?_) (fun c310057 => ?_)
      · have kc310057 : ¬ (v310056.toInt = 1) := by have h9 := c310057; rw [xk_eq, xk_1] at h9; exact h9
        refine lv_iconst (v := 0) hx hb dX7_isReplica_38 (by decide) ?_
        exact W.zret (v := 0) hx hb hr (by decide) (fun t ht hW => ⟨0, rfl, by show _ = _; rw [sp_ir, if_neg (fun q => c310047 (by rw [hr310045]; exact q)), if_neg c310050, if_neg (fun q => c310057 (by rw [ev310056, ev310055, ex310054]; exact q))], ht⟩) (fun _ h => by cases h) dX7_isReplica_39
      · have kc310057 : v310056.toInt = 1 := by have h9 := c310057; rw [xk_eq, xk_1] at h9; exact h9
        refine lv_iconst (v := 1) hx hb dX7_isReplica_34 (by decide) ?_
        refine lv_goto (tgt := 39) hx hb dX7_isReplica_35 (by decide) ?_
        exact W.zret (v := 1) hx hb hr (by decide) (fun t ht hW => ⟨1, rfl, by show _ = _; rw [sp_ir, if_neg (fun q => c310047 (by rw [hr310045]; exact q)), if_neg c310050, if_pos (by rw [← ex310054, ← ev310055, ← ev310056]; exact c310057)], ht⟩) (fun _ h => by cases h) dX7_isReplica_39
set_option maxHeartbeats 4000000 in
set_option maxRecDepth 100000 in
/-- known, exactly -/
theorem f_X7_known (l : Launch) (dC : Nat → ClassId) (dI : Nat → Nat → Nat) (cy : Nat → ClassId) (w : Nat → Nat) (L : List Nat) (K N : Nat → Nat) (T : Nat → Nat → Nat) (Q : Nat → Nat → Option Nat) (I J : Nat → Nat → Int32) (xp : Int32) (xn : Int32) (hM : MS w L K N T Q) (hp : vp_in xp 4) (hn : vp_in xn 5) : Met l yX7_known wsX7_known ({ frames := 0, cells := 0, slots := 0, locals := 0 }) (va_Pc [.ref (w 0), .int xp, .int xn] (mB dC dI cy L (wF cy K N T I Q J))) (vp_Si (fun r => r = if xn = J (w 4) xp.toNatClampNeg then I (w (21 + (5 * xp.toNatClampNeg + xn.toNatClampNeg))) 2 else I (w (21 + (5 * xp.toNatClampNeg + xn.toNatClampNeg))) 5)) 0 0 (fun _ => False) := by
  refine Met.ofW (cc := cX7_known) (maxL := 3) (ret := (some .int)) (by decide) rfl ?_
  intro p e s m args below meth c s₁ B hml hv
  obtain ⟨rfl, hP, hK⟩ := hv
  have hx := B.exec
  have hb := B.bytes
  have hr := B.returns
  have hts := atoms_spec (ws := wsX7_known) B.pre
  have hown : s.vm.findClass RX7 = some m.cls := findClass_of_methodNamed B.named
  have hlocks := B.notSynchronized
  have hi7 : ∀ w ∈ wsX70, w ∈ wsX7_known := by decide +kernel
  have hi6 : ∀ w ∈ wsX60, w ∈ wsX7_known := by decide +kernel
  have hl := lv_entry ([.ref (w 0), .int xp, .int xn]) (n := 3) (Nat.le_of_ble_eq_true rfl)
  rw [lg_entry_eq]
  generalize (lg_sl ([.ref (w 0), .int xp, .int xn]) ++ List.replicate (3 - (lg_sl ([.ref (w 0), .int xp, .int xn])).length) Slot.unset).toArray = ls at hl ⊢
  have hl : lv_has ls 3 [(0, .ref (w 0)), (1, .int xp), (2, .int xn)] := hl
  refine lv_iload_n hx hb dX7_known_0 rfl (lv_at hl 2 rfl) ?_
  refine lv_aload_n hx hb dX7_known_1 rfl (lv_at hl 0 rfl) ?_
  obtain ⟨j310058, hj310058⟩ := wG_7 (cy := cy) (N := N) (T := T) (I := I) (Q := Q) (J := J) (hM.at 0 (by decide)) (hM.k 0 (by decide) rfl)
  refine va_get (D := (dC, dI)) (ci := 7) (v := .ref (T (w 0) 3)) (C := RX7) (T := TX7) (N := 18) hx hb hts hi7 hown hK hP j310058 hj310058 rfl 3 (by decide) (hts (.fieldLink RX7 22 "TallyLogsModel" "leader" "[I") (by decide +kernel)) (fun _ h9 => h9) rfl dX7_known_2 ?_
  refine W.eq (g2 := F0 m 5 ls [.ref (w 4), .int xn]) (by rw [hM.t 3 (by decide)]) ?_
  refine lv_iload_n hx hb dX7_known_5 rfl (lv_at hl 1 rfl) ?_
  obtain ⟨j310059, hj310059⟩ := wG_20 (cy := cy) (N := N) (T := T) (I := I) (Q := Q) (J := J) (hM.at 4 (by decide)) (hM.k 4 (by decide) rfl)
  refine va_iald hx hb hK hP j310059 1 hj310059 rfl (hM.inN (n := 4) 4 (by decide) rfl rfl hp) dX7_known_6 ?_
  refine lv_topi (fun x310060 ex310060 => ?_)
  refine lv_icmp_ne (tgt := 24) hx hb dX7_known_7 (by decide) (fun c310061 => ?_) (fun c310061 => ?_)
  · have kc310061 : ¬ (xn.toInt = x310060.toInt) := by have h9 := c310061; rw [xk_eq] at h9; exact h9
    refine lv_aload_n hx hb dX7_known_24 rfl (lv_at hl 0 rfl) ?_
    obtain ⟨j310062, hj310062⟩ := wG_7 (cy := cy) (N := N) (T := T) (I := I) (Q := Q) (J := J) (hM.at 0 (by decide)) (hM.k 0 (by decide) rfl)
    refine va_get (D := (dC, dI)) (ci := 7) (v := .ref (T (w 0) 0)) (C := RX7) (T := TX7) (N := 18) hx hb hts hi7 hown hK hP j310062 hj310062 rfl 0 (by decide) (hts (.fieldLink RX7 11 "TallyLogsModel" "log" "[[LTallyLogsModel$Log;") (by decide +kernel)) (fun _ h9 => h9) rfl dX7_known_25 ?_
    refine W.eq (g2 := F0 m 28 ls [.ref (w 1)]) (by rw [hM.t 0 (by decide)]) ?_
    refine lv_iload_n hx hb dX7_known_28 rfl (lv_at hl 1 rfl) ?_
    obtain ⟨j310063, hj310063⟩ := wG_22 (cy := cy) (N := N) (T := T) (I := I) (Q := Q) (J := J) (hM.at 1 (by decide)) (hM.k 1 (by decide) rfl)
    refine xg_aldg hx hb hK hP j310063 2 hj310063 rfl hp dX7_known_29 ?_
    refine W.eq (g2 := F0 m 30 ls [.ref (w (17 + xp.toNatClampNeg))]) (by rw [hM.qo (vp_lt (n := 4) hp)]; rfl) ?_
    refine lv_iload_n hx hb dX7_known_30 rfl (lv_at hl 2 rfl) ?_
    obtain ⟨j310064, hj310064⟩ := wG_23 (cy := cy) (N := N) (T := T) (I := I) (Q := Q) (J := J) (hM.row (vp_lt (n := 4) hp)).1 (hM.row (vp_lt (n := 4) hp)).2
    refine va_aldq hx hb hK hP j310064 3 hj310064 rfl hn dX7_known_31 ?_
    have hjl310065 : (5 * xp.toNatClampNeg + xn.toNatClampNeg) < 20 := by have h1 := (vp_lt (n := 4) hp); have h2 := (vp_lt (n := 5) hn); omega
    refine W.eq (g2 := F0 m 32 ls [.ref (w (21 + (5 * xp.toNatClampNeg + xn.toNatClampNeg)))]) (by rw [hM.qr (vp_lt (n := 4) hp) (vp_lt (n := 5) hn)]; rfl) ?_
    obtain ⟨j310066, hj310066⟩ := wG_6 (cy := cy) (N := N) (T := T) (I := I) (Q := Q) (J := J) (hM.lg hjl310065).1 (hM.lg hjl310065).2
    refine va_get (D := (dC, dI)) (ci := 6) (v := .int (I (w (21 + (5 * xp.toNatClampNeg + xn.toNatClampNeg))) 5)) (C := RX6) (T := TX6) (N := 7) hx hb hts hi6 hown hK hP j310066 hj310066 rfl 5 (by decide) (hts (.fieldLink RX7 92 "TallyLogsModel$Log" "known" "I") (by decide +kernel)) (fun _ h9 => h9) rfl dX7_known_32 ?_
    refine lv_topi (fun x310067 ex310067 => ?_)
    have tx310067 : x310067.toInt = (I (w (21 + (5 * xp.toNatClampNeg + xn.toNatClampNeg))) 5).toInt := congrArg Int32.toInt ex310067
    exact W.iret (v := x310067) hx hb hr (fun t ht hW => ⟨x310067, rfl, by show _ = _; rw [if_neg (fun q => c310061 (by rw [ex310060]; exact q)), ex310067], ht⟩) (fun _ h => by cases h) dX7_known_35
  · have kc310061 : xn.toInt = x310060.toInt := by have h9 := c310061; rw [xk_eq] at h9; exact h9
    refine lv_aload_n hx hb dX7_known_10 rfl (lv_at hl 0 rfl) ?_
    obtain ⟨j310068, hj310068⟩ := wG_7 (cy := cy) (N := N) (T := T) (I := I) (Q := Q) (J := J) (hM.at 0 (by decide)) (hM.k 0 (by decide) rfl)
    refine va_get (D := (dC, dI)) (ci := 7) (v := .ref (T (w 0) 0)) (C := RX7) (T := TX7) (N := 18) hx hb hts hi7 hown hK hP j310068 hj310068 rfl 0 (by decide) (hts (.fieldLink RX7 11 "TallyLogsModel" "log" "[[LTallyLogsModel$Log;") (by decide +kernel)) (fun _ h9 => h9) rfl dX7_known_11 ?_
    refine W.eq (g2 := F0 m 14 ls [.ref (w 1)]) (by rw [hM.t 0 (by decide)]) ?_
    refine lv_iload_n hx hb dX7_known_14 rfl (lv_at hl 1 rfl) ?_
    obtain ⟨j310069, hj310069⟩ := wG_22 (cy := cy) (N := N) (T := T) (I := I) (Q := Q) (J := J) (hM.at 1 (by decide)) (hM.k 1 (by decide) rfl)
    refine xg_aldg hx hb hK hP j310069 2 hj310069 rfl hp dX7_known_15 ?_
    refine W.eq (g2 := F0 m 16 ls [.ref (w (17 + xp.toNatClampNeg))]) (by rw [hM.qo (vp_lt (n := 4) hp)]; rfl) ?_
    refine lv_iload_n hx hb dX7_known_16 rfl (lv_at hl 2 rfl) ?_
    obtain ⟨j310070, hj310070⟩ := wG_23 (cy := cy) (N := N) (T := T) (I := I) (Q := Q) (J := J) (hM.row (vp_lt (n := 4) hp)).1 (hM.row (vp_lt (n := 4) hp)).2
    refine va_aldq hx hb hK hP j310070 3 hj310070 rfl hn dX7_known_17 ?_
    have hjl310071 : (5 * xp.toNatClampNeg + xn.toNatClampNeg) < 20 := by have h1 := (vp_lt (n := 4) hp); have h2 := (vp_lt (n := 5) hn); omega
    refine W.eq (g2 := F0 m 18 ls [.ref (w (21 + (5 * xp.toNatClampNeg + xn.toNatClampNeg)))]) (by rw [hM.qr (vp_lt (n := 4) hp) (vp_lt (n := 5) hn)]; rfl) ?_
    obtain ⟨j310072, hj310072⟩ := wG_6 (cy := cy) (N := N) (T := T) (I := I) (Q := Q) (J := J) (hM.lg hjl310071).1 (hM.lg hjl310071).2
    refine va_get (D := (dC, dI)) (ci := 6) (v := .int (I (w (21 + (5 * xp.toNatClampNeg + xn.toNatClampNeg))) 2)) (C := RX6) (T := TX6) (N := 7) hx hb hts hi6 hown hK hP j310072 hj310072 rfl 2 (by decide) (hts (.fieldLink RX7 89 "TallyLogsModel$Log" "end" "I") (by decide +kernel)) (fun _ h9 => h9) rfl dX7_known_18 ?_
    refine lv_topi (fun x310073 ex310073 => ?_)
    have tx310073 : x310073.toInt = (I (w (21 + (5 * xp.toNatClampNeg + xn.toNatClampNeg))) 2).toInt := congrArg Int32.toInt ex310073
    refine lv_goto (tgt := 35) hx hb dX7_known_21 (by decide) ?_
    exact W.iret (v := x310073) hx hb hr (fun t ht hW => ⟨x310073, rfl, by show _ = _; rw [if_pos (by rw [← ex310060]; exact c310061), ex310073], ht⟩) (fun _ h => by cases h) dX7_known_35
