set_option maxHeartbeats 4000000 in
set_option maxRecDepth 100000 in
/-- crash, exactly -/
theorem f_X7_crash (l : Launch) (dC : Nat → ClassId) (dI : Nat → Nat → Nat) (cy : Nat → ClassId) (w : Nat → Nat) (L : List Nat) (K N : Nat → Nat) (T : Nat → Nat → Nat) (Q : Nat → Nat → Option Nat) (I J : Nat → Nat → Int32) (sz : Nat) (E : Int) (xn : Int32) (xk : Int32) (σ : SG) (hM : MS w L K N T Q) (hI : MI w E I J) (hE : E ≤ 1000) (hMR : MR w I J σ) : Met l yX7_crash wsX7_crash ({ frames := 4, cells := 0, slots := 0, locals := 99 }) (va_Pc [.ref (w 0), .int xn, .int xk] (mW dC dI cy L (wF cy K N T I Q J) sz)) (va_Qi (fun (r : Int32) (d : (Nat → Nat → Int32) × (Nat → Nat → Int32)) => MI w (E + 5) d.1 d.2 ∧ MR w d.1 d.2 (qCr σ xn xk).1 ∧ r = (qCr σ xn xk).2) (fun (d : (Nat → Nat → Int32) × (Nat → Nat → Int32)) t => va_P (dC, dI) vwCl (va_pl L (wF cy K N T d.1 Q d.2)) t.heap ∧ va_K (dC, dI) vwCl (mTy cy) t ∧ va_D (va_A (va_pl L (wF cy K N T I Q J)) sz) (va_pl L (wF cy K N T d.1 Q d.2))) (va_A (va_pl L (wF cy K N T I Q J)) sz)) 0 0 (va_A (va_pl L (wF cy K N T I Q J)) sz) := by
  refine Met.ofW (cc := cX7_crash) (maxL := 6) (ret := (some .int)) (by decide) rfl ?_
  intro p e s m args below meth c s₁ B hml hv
  obtain ⟨rfl, hsz, ⟨hP, hK⟩, hD0⟩ := hv
  have hx := B.exec
  have hb := B.bytes
  have hr := B.returns
  have hts := atoms_spec (ws := wsX7_crash) B.pre
  have hown : s.vm.findClass RX7 = some m.cls := findClass_of_methodNamed B.named
  have hlocks := B.notSynchronized
  have hi7 : ∀ w ∈ wsX70, w ∈ wsX7_crash := by decide +kernel
  have hi6 : ∀ w ∈ wsX60, w ∈ wsX7_crash := by decide +kernel
  have hl := lv_entry ([.ref (w 0), .int xn, .int xk]) (n := 6) (Nat.le_of_ble_eq_true rfl)
  rw [lg_entry_eq]
  generalize (lg_sl ([.ref (w 0), .int xn, .int xk]) ++ List.replicate (6 - (lg_sl ([.ref (w 0), .int xn, .int xk])).length) Slot.unset).toArray = ls at hl ⊢
  have hl : lv_has ls 6 [(0, .ref (w 0)), (1, .int xn), (2, .int xk)] := hl
  subst hsz
  have hD := hD0.self (sz := s.heap.size)
  generalize hAe : va_A (va_pl L (wF cy K N T I Q J)) s.heap.size = A at hD ⊢
  have hA : ∀ q : Nat, s.heap.size ≤ q → A q := fun q h => by rw [← hAe]; exact Or.inr h
  have hS : va_S A s.heap s.heap [] := va_S.rf
  have hR : RM w [] I J I J := RM.rf
  obtain ⟨hML, hMD, hMU⟩ := hI
  refine lv_aload_n hx hb dX7_crash_0 rfl (lv_at hl 0 rfl) ?_
  refine lv_iload_n hx hb dX7_crash_1 rfl (lv_at hl 1 rfl) ?_
  obtain ⟨j360002, hj360002⟩ := wG_7 (cy := cy) (N := N) (T := T) (I := I) (Q := Q) (J := J) (hM.at 0 (by decide)) (hM.k 0 (by decide) rfl)
  refine vp_callSi (W.runV (As := [.int xn]) (rest := []) ⟨hx, hb, hml, hown, hts⟩ (c_X7_isUp l dC dI cy w L K N T Q I J xn hM) (cwV 1 hts gX7_crash_X7_isUp rfl rfl rfl (by decide +kernel) ⟨Nat.le_of_ble_eq_true rfl, Nat.le_of_ble_eq_true rfl⟩) ⟨mb_blind, va_recv hK hP (ci := 7) (q0 := j360002) rfl hj360002, fun U hU hW => ⟨rfl, mb_pre hP hK hU hW⟩⟩ rfl rfl hl.1 rfl (lv_room (Nat.le_of_ble_eq_true rfl)) dX7_crash_2 ⟨Nat.le_of_ble_eq_true rfl, Nat.le_of_ble_eq_true rfl⟩) (fun r360001 hr360001 => ?_)
  have hir360001 : r360001 = sp_iu (σ.1 0 0) xn := hr360001.trans (hMR.iu _)
  refine lv_if_eq (tgt := 12) hx hb dX7_crash_5 (by decide) (fun c360003 => ?_) (fun c360003 => ?_)
  · have kc360003 : r360001.toInt = 0 := by have h9 := c360003; rw [xk_eq, xk_0] at h9; exact h9
    refine lv_iconst (v := (-1)) hx hb dX7_crash_12 (by decide) ?_
    exact W.iret (v := (-1)) hx hb hr (fun t ht hW => ⟨⟨(-1), (I, J), rfl, ⟨⟨hML.mono (by omega), hMD, hMU⟩, by have e9 : qCr σ xn xk = (σ, (-1)) := (by rw [qCr, if_pos (by have k9 := c360003; simp only [hir360001] at k9; exact k9)]); show MR w I J _; rw [e9]; exact hMR, by have e9 : qCr σ xn xk = (σ, (-1)) := (by rw [qCr, if_pos (by have k9 := c360003; simp only [hir360001] at k9; exact k9)]); show _ = _; rw [e9]⟩, by rw [ht]; exact hP, va_K.moved hW.alike hK, hD⟩, hS.F ht⟩) hS.2.2 dX7_crash_13
  · have hup360004 := sp_iu1 (by rw [← hr360001]; exact c360003)
    have kc360003 : ¬ (r360001.toInt = 0) := by have h9 := c360003; rw [xk_eq, xk_0] at h9; exact h9
    refine lv_iload_n hx hb dX7_crash_8 rfl (lv_at hl 2 rfl) ?_
    refine lv_if_ge (tgt := 14) hx hb dX7_crash_9 (by decide) (fun c360005 => ?_) (fun c360005 => ?_)
    · have kc360005 : 0 ≤ xk.toInt := by have h9 := c360005; rw [xk_le, xk_0] at h9; exact h9
      refine lv_aload_n hx hb dX7_crash_14 rfl (lv_at hl 0 rfl) ?_
      refine lv_dup hx hb dX7_crash_15 rfl ?_
      obtain ⟨j360006, hj360006⟩ := wG_7 (cy := cy) (N := N) (T := T) (I := I) (Q := Q) (J := J) (hM.at 0 (by decide)) (hM.k 0 (by decide) rfl)
      refine va_get (D := (dC, dI)) (ci := 7) (v := .int (I (w 0) 16)) (C := RX7) (T := TX7) (N := 18) hx hb hts hi7 hown hK hP j360006 hj360006 rfl 16 (by decide) (hts (.fieldLink RX7 61 "TallyLogsModel" "up" "I") (by decide +kernel)) (fun _ h9 => h9) rfl dX7_crash_16 ?_
      refine lv_topi (fun x360007 ex360007 => ?_)
      have sx360007 : x360007 = σ.1 0 0 := ex360007.trans hMR.1.1
      have tx360007 : x360007.toInt = (I (w 0) 16).toInt := congrArg Int32.toInt ex360007
      refine lv_iconst (v := 1) hx hb dX7_crash_19 (by decide) ?_
      refine lv_iload_n hx hb dX7_crash_20 rfl (lv_at hl 1 rfl) ?_
      refine lv_ishl hx hb dX7_crash_21 ?_
      refine lv_topi (fun v360008 ev360008 => ?_)
      refine lv_iconst (v := (-1)) hx hb dX7_crash_22 (by decide) ?_
      refine lv_ixor hx hb dX7_crash_23 ?_
      refine lv_topi (fun v360009 ev360009 => ?_)
      refine lv_iand hx hb dX7_crash_24 ?_
      refine lv_topi (fun v360010 ev360010 => ?_)
      obtain ⟨j360011, hj360011⟩ := wG_7 (cy := cy) (N := N) (T := T) (I := I) (Q := Q) (J := J) (hM.at 0 (by decide)) (hM.k 0 (by decide) rfl)
      have hDo := hD
      refine va_put (D := (dC, dI)) (ci := 7) (v := .int v360010) (ty := .int) (C := RX7) (T := TX7) (N := 18) hx hb hts hi7 tyX7 tyX7_ok nmX7 hown hK hP hD hS j360011 hj360011 rfl 16 (by decide) (hts (.fieldLink RX7 61 "TallyLogsModel" "up" "I") (by decide +kernel)) (fun _ h9 => h9) rfl (by decide +kernel) rfl rfl (Nat.le_of_ble_eq_true rfl) dX7_crash_25 (fun H locs hP hD hS => ?_)
      have hP := Eq.mp (congrArg (fun w => va_P (dC, dI) vwCl w H) (wP_7_16 (x := v360010) hDo (hM.at 0 (by decide)) (hM.k 0 (by decide) rfl) hj360011)) hP
      obtain ⟨I360012, eI360012⟩ : ∃ z, z = p2 I (w 0) 16 v360010 := ⟨_, rfl⟩
      rw [← eI360012] at hP
      have hD : va_D A (va_pl L (wF cy K N T I360012 Q J)) := pD hDo
      obtain ⟨sg360013, esg360013⟩ : ∃ z, z = sA σ 0 0 v360010 := ⟨_, rfl⟩
      have hMR : MR w I360012 J sg360013 := by rw [eI360012, esg360013]; exact hMR.w0 hM (f := 0) (by decide)
      have hMU : MU w I360012 := by
        obtain ⟨u9, hu9, eu9⟩ := (show ∃ u : Nat, u < 32 ∧ v360010 = nI u by rw [ev360010, ex360007]; exact xu_and hMU)
        exact ⟨u9, hu9, by rw [eI360012, p2_at]; exact eu9⟩
      have hR : RM w [] I360012 J I360012 J := RM.rf
      have hML : ML w E I360012 := by rw [eI360012]; exact hML.pm hM
      refine lv_iconst (v := 0) hx hb dX7_crash_28 (by decide) ?_
      refine lv_istore_n (lv' := [(3, .int 0), (0, .ref (w 0)), (1, .int xn), (2, .int xk)]) hx hb dX7_crash_29 rfl hl (by decide) rfl (fun ls hl => ?_)
      refine lv_iconst (v := 0) hx hb dX7_crash_30 (by decide) ?_
      refine lv_istore (lv' := [(4, .int 0), (3, .int 0), (0, .ref (w 0)), (1, .int xn), (2, .int xk)]) hx hb dX7_crash_31 hl (by decide) rfl (fun ls hl => ?_)
      refine wq_gen (fun Qz hQz => ?_)
      have hLP360014 : ∀ (n k360014 : Nat) (y360015 : Int32) (Ia360014 Ja360014 : Nat → Nat → Int32) (H : Heap) (locs : List Loc) (ls : Array Slot), k360014 + n = 4 → (y360015 = (oC5 (sg360013, 0) xn xk k360014).2) → RM w [] I360012 J Ia360014 Ja360014 → ML w E Ia360014 → MD w Ja360014 → MU w Ia360014 → MR w Ia360014 Ja360014 ((oC5 (sg360013, 0) xn xk k360014).1) →  va_P (dC, dI) vwCl (va_pl L (wF cy K N T Ia360014 Q Ja360014)) H → va_D A (va_pl L (wF cy K N T Ia360014 Q Ja360014)) → va_S A s.heap H locs → lv_has ls 6 [(4, .int (nI k360014)), (3, .int y360015), (0, .ref (w 0)), (1, .int xn), (2, .int xk)] → W p l e (headSpec wsX7_crash ({ frames := 4, cells := 0, slots := 0, locals := 99 })).room s m ([.ref (w 0), .int xn, .int xk] : List Value).toArray below meth c H locs 0 0 Qz (F0 m 33 ls []) := by
        intro n
        induction n with
        | zero =>
          intro k360014 y360015 Ia360014 Ja360014 H locs ls hkn360014 hiv360014 hR hML hMD hMU hMR hP hD hS hl
          obtain rfl : k360014 = 4 := by omega
          refine lv_iload hx hb dX7_crash_33 (lv_at hl 0 rfl) ?_
          refine lv_iconst (v := 4) hx hb dX7_crash_35 (by decide) ?_
          refine lv_icmp_ge (tgt := 195) hx hb dX7_crash_36 (by decide) (fun c360016 => ?_) (fun c360016 => ?_)
          rotate_left
          · exact absurd (by decide) c360016
          refine lv_iload_n hx hb dX7_crash_195 rfl (lv_at hl 1 rfl) ?_
          rw [hQz]
          exact W.iret (v := y360015) hx hb hr (fun t ht hW => ⟨⟨y360015, (Ia360014, Ja360014), rfl, ⟨⟨hML.mono (by omega), hMD, hMU⟩, by have e9 : qCr σ xn xk = ((oC5 (sg360013, 0) xn xk 4).1, y360015) := (by rw [qCr, if_neg (by have k9 := c360003; simp only [hir360001] at k9; exact k9), if_neg (by have k9 := c360005; rw [xk_le] at k9; rw [xk_lt]; omega)]; have eb : sA σ 0 0 (σ.1 0 0 &&& ((1 <<< (xn &&& 31)) ^^^ (-1))) = sg360013 := (by rw [esg360013]; simp only [ev360010, sx360007, ev360009, ev360008]); rw [eb]; exact Prod.ext rfl hiv360014.symm); show MR w Ia360014 Ja360014 _; rw [e9]; exact hMR, by have e9 : qCr σ xn xk = ((oC5 (sg360013, 0) xn xk 4).1, y360015) := (by rw [qCr, if_neg (by have k9 := c360003; simp only [hir360001] at k9; exact k9), if_neg (by have k9 := c360005; rw [xk_le] at k9; rw [xk_lt]; omega)]; have eb : sA σ 0 0 (σ.1 0 0 &&& ((1 <<< (xn &&& 31)) ^^^ (-1))) = sg360013 := (by rw [esg360013]; simp only [ev360010, sx360007, ev360009, ev360008]); rw [eb]; exact Prod.ext rfl hiv360014.symm); show _ = _; rw [e9]⟩, by rw [ht]; exact hP, va_K.moved hW.alike hK, hD⟩, hS.F ht⟩) hS.2.2 dX7_crash_196
        | succ n ih360014 =>
          intro k360014 y360015 Ia360014 Ja360014 H locs ls hkn360014 hiv360014 hR hML hMD hMU hMR hP hD hS hl
          have hkc360014 : (nI k360014).toNatClampNeg = k360014 := nI_clamp (by omega)
          have hki360014 : vp_in (nI k360014) 4 := nI_in (by omega) (by decide)
          refine lv_iload hx hb dX7_crash_33 (lv_at hl 0 rfl) ?_
          refine lv_iconst (v := 4) hx hb dX7_crash_35 (by decide) ?_
          refine lv_icmp_ge (tgt := 195) hx hb dX7_crash_36 (by decide) (fun c360017 => ?_) (fun c360017 => ?_)
          · exact absurd c360017 (nI_ge (b := 4) (by omega) (by decide))
          refine lv_aload_n hx hb dX7_crash_39 rfl (lv_at hl 2 rfl) ?_
          obtain ⟨j360018, hj360018⟩ := wG_7 (cy := cy) (N := N) (T := T) (I := Ia360014) (Q := Q) (J := Ja360014) (hM.at 0 (by decide)) (hM.k 0 (by decide) rfl)
          refine va_get (D := (dC, dI)) (ci := 7) (v := .ref (T (w 0) 1)) (C := RX7) (T := TX7) (N := 18) hx hb hts hi7 hown hK hP j360018 hj360018 rfl 1 (by decide) (hts (.fieldLink RX7 14 "TallyLogsModel" "there" "[Z") (by decide +kernel)) (fun _ h9 => h9) rfl dX7_crash_40 ?_
          refine W.eq (g2 := F0 m 43 ls [.ref (w 2)]) (by rw [hM.t 1 (by decide)]) ?_
          refine lv_iload hx hb dX7_crash_43 (lv_at hl 0 rfl) ?_
          obtain ⟨j360019, hj360019⟩ := wG_21 (cy := cy) (N := N) (T := T) (I := Ia360014) (Q := Q) (J := Ja360014) (hM.at 2 (by decide)) (hM.k 2 (by decide) rfl)
          refine va_zald hx hb hK hP j360019 0 hj360019 rfl hki360014 dX7_crash_45 ?_
          refine lv_topi (fun x360020 ex360020 => ?_)
          have sx360020 : x360020 = ((oC5 (sg360013, 0) xn xk k360014).1).1 2 ((nI k360014).toNatClampNeg) := ex360020.trans (hMR.a (k := 2) (by decide) (by decide) (show _ < 4 from vp_lt (n := 4) hki360014))
          refine lv_if_ne (tgt := 52) hx hb dX7_crash_46 (by decide) (fun c360021 => ?_) (fun c360021 => ?_)
          · have kc360021 : ¬ (x360020.toInt = 0) := by have h9 := c360021; rw [xk_eq, xk_0] at h9; exact h9
            refine lv_aload_n hx hb dX7_crash_52 rfl (lv_at hl 2 rfl) ?_
            obtain ⟨j360022, hj360022⟩ := wG_7 (cy := cy) (N := N) (T := T) (I := Ia360014) (Q := Q) (J := Ja360014) (hM.at 0 (by decide)) (hM.k 0 (by decide) rfl)
            refine va_get (D := (dC, dI)) (ci := 7) (v := .ref (T (w 0) 2)) (C := RX7) (T := TX7) (N := 18) hx hb hts hi7 hown hK hP j360022 hj360022 rfl 2 (by decide) (hts (.fieldLink RX7 18 "TallyLogsModel" "replicas" "[I") (by decide +kernel)) (fun _ h9 => h9) rfl dX7_crash_53 ?_
            refine W.eq (g2 := F0 m 56 ls [.ref (w 3)]) (by rw [hM.t 2 (by decide)]) ?_
            refine lv_iload hx hb dX7_crash_56 (lv_at hl 0 rfl) ?_
            obtain ⟨j360023, hj360023⟩ := wG_20 (cy := cy) (N := N) (T := T) (I := Ia360014) (Q := Q) (J := Ja360014) (hM.at 3 (by decide)) (hM.k 3 (by decide) rfl)
            refine va_iald hx hb hK hP j360023 1 hj360023 rfl (hM.inN (n := 4) 3 (by decide) rfl rfl hki360014) dX7_crash_58 ?_
            refine lv_topi (fun x360024 ex360024 => ?_)
            have sx360024 : x360024 = ((oC5 (sg360013, 0) xn xk k360014).1).1 3 ((nI k360014).toNatClampNeg) := ex360024.trans (hMR.a (k := 3) (by decide) (by decide) (show _ < 4 from vp_lt (n := 4) hki360014))
            refine lv_iload_n hx hb dX7_crash_59 rfl (lv_at hl 3 rfl) ?_
            refine lv_ishr hx hb dX7_crash_60 ?_
            refine lv_topi (fun v360025 ev360025 => ?_)
            refine lv_iconst (v := 1) hx hb dX7_crash_61 (by decide) ?_
            refine lv_iand hx hb dX7_crash_62 ?_
            refine lv_topi (fun v360026 ev360026 => ?_)
            refine lv_iconst (v := 1) hx hb dX7_crash_63 (by decide) ?_
            refine lv_icmp_ne (tgt := 176) hx hb dX7_crash_64 (by decide) (fun c360027 => ?_) (fun c360027 => ?_)
            · have kc360027 : ¬ (v360026.toInt = 1) := by have h9 := c360027; rw [xk_eq, xk_1] at h9; exact h9
              refine lv_aload_n hx hb dX7_crash_176 rfl (lv_at hl 2 rfl) ?_
              obtain ⟨j360028, hj360028⟩ := wG_7 (cy := cy) (N := N) (T := T) (I := Ia360014) (Q := Q) (J := Ja360014) (hM.at 0 (by decide)) (hM.k 0 (by decide) rfl)
              refine va_get (D := (dC, dI)) (ci := 7) (v := .ref (T (w 0) 3)) (C := RX7) (T := TX7) (N := 18) hx hb hts hi7 hown hK hP j360028 hj360028 rfl 3 (by decide) (hts (.fieldLink RX7 22 "TallyLogsModel" "leader" "[I") (by decide +kernel)) (fun _ h9 => h9) rfl dX7_crash_177 ?_
              refine W.eq (g2 := F0 m 180 ls [.ref (w 4)]) (by rw [hM.t 3 (by decide)]) ?_
              refine lv_iload hx hb dX7_crash_180 (lv_at hl 0 rfl) ?_
              obtain ⟨j360029, hj360029⟩ := wG_20 (cy := cy) (N := N) (T := T) (I := Ia360014) (Q := Q) (J := Ja360014) (hM.at 4 (by decide)) (hM.k 4 (by decide) rfl)
              refine va_iald hx hb hK hP j360029 1 hj360029 rfl (hM.inN (n := 4) 4 (by decide) rfl rfl hki360014) dX7_crash_182 ?_
              refine lv_topi (fun x360030 ex360030 => ?_)
              have sx360030 : x360030 = ((oC5 (sg360013, 0) xn xk k360014).1).1 4 ((nI k360014).toNatClampNeg) := ex360030.trans (hMR.a (k := 4) (by decide) (by decide) (show _ < 4 from vp_lt (n := 4) hki360014))
              refine lv_if_ge (tgt := 189) hx hb dX7_crash_183 (by decide) (fun c360031 => ?_) (fun c360031 => ?_)
              · have kc360031 : 0 ≤ x360030.toInt := by have h9 := c360031; rw [xk_le, xk_0] at h9; exact h9
                obtain ⟨v360032, ev360032⟩ : ∃ y : Int32, y = (nI k360014) + Int32.ofInt 1 := ⟨_, rfl⟩
                refine lv_iinc (v := v360032) (lv' := [(4, .int v360032), (3, .int y360015), (0, .ref (w 0)), (1, .int xn), (2, .int xk)]) hx hb dX7_crash_189 hl (k := 0) rfl ev360032.symm (by decide) rfl (fun ls hl => ?_)
                refine lv_goto (tgt := 33) hx hb dX7_crash_192 (by decide) ?_
                obtain rfl : v360032 = nI (k360014 + 1) := ev360032.trans (nI_add k360014 1)
                have hX : (if ((oC5 (sg360013, 0) xn xk k360014).1.1 3 k360014 >>> (xn &&& 31)) &&& 1 = 1 then oRi (oC3 (oC2 (oC1 (oC5 (sg360013, 0) xn xk k360014).1 (5 * k360014 + xn.toNatClampNeg) xk) k360014 xn) k360014 xn) k360014 else (oC5 (sg360013, 0) xn xk k360014).1) = (oC5 (sg360013, 0) xn xk k360014).1 := by rw [if_neg (by have k9 := c360027; simp only [ev360026, ev360025, sx360024, hkc360014] at k9; exact k9)]
                have e9 : oC5 (sg360013, 0) xn xk (k360014 + 1) = ((oC5 (sg360013, 0) xn xk k360014).1, y360015) := by
                  show oC4 (oC5 (sg360013, 0) xn xk k360014) k360014 xn xk = _
                  rw [oC4, if_neg (by have k9 := c360021; simp only [sx360020, hkc360014] at k9; exact k9), hX]
                  rw [if_pos (by have k9 := c360031; simp only [sx360030, hkc360014] at k9; exact k9), ← hiv360014]
                exact ih360014 (k360014 + 1) _ _ _ _ _ _ (by omega) (by rw [e9]) hR (hML.mono (by omega)) hMD hMU (by rw [e9]; exact hMR) hP hD hS (lv_sub hl [0, 1, 2, 3, 4] rfl)
              · have kc360031 : ¬ (0 ≤ x360030.toInt) := by have h9 := c360031; rw [xk_le, xk_0] at h9; exact h9
                obtain ⟨v360033, ev360033⟩ : ∃ y : Int32, y = y360015 + Int32.ofInt 1 := ⟨_, rfl⟩
                refine lv_iinc (v := v360033) (lv' := [(3, .int v360033), (4, .int (nI k360014)), (0, .ref (w 0)), (1, .int xn), (2, .int xk)]) hx hb dX7_crash_186 hl (k := 1) rfl ev360033.symm (by decide) rfl (fun ls hl => ?_)
                obtain ⟨v360034, ev360034⟩ : ∃ y : Int32, y = (nI k360014) + Int32.ofInt 1 := ⟨_, rfl⟩
                refine lv_iinc (v := v360034) (lv' := [(4, .int v360034), (3, .int v360033), (0, .ref (w 0)), (1, .int xn), (2, .int xk)]) hx hb dX7_crash_189 hl (k := 1) rfl ev360034.symm (by decide) rfl (fun ls hl => ?_)
                refine lv_goto (tgt := 33) hx hb dX7_crash_192 (by decide) ?_
                obtain rfl : v360034 = nI (k360014 + 1) := ev360034.trans (nI_add k360014 1)
                have hX : (if ((oC5 (sg360013, 0) xn xk k360014).1.1 3 k360014 >>> (xn &&& 31)) &&& 1 = 1 then oRi (oC3 (oC2 (oC1 (oC5 (sg360013, 0) xn xk k360014).1 (5 * k360014 + xn.toNatClampNeg) xk) k360014 xn) k360014 xn) k360014 else (oC5 (sg360013, 0) xn xk k360014).1) = (oC5 (sg360013, 0) xn xk k360014).1 := by rw [if_neg (by have k9 := c360027; simp only [ev360026, ev360025, sx360024, hkc360014] at k9; exact k9)]
                have e9 : oC5 (sg360013, 0) xn xk (k360014 + 1) = ((oC5 (sg360013, 0) xn xk k360014).1, v360033) := by
                  show oC4 (oC5 (sg360013, 0) xn xk k360014) k360014 xn xk = _
                  rw [oC4, if_neg (by have k9 := c360021; simp only [sx360020, hkc360014] at k9; exact k9), hX]
                  rw [if_neg (by have k9 := c360031; simp only [sx360030, hkc360014] at k9; exact k9), ← hiv360014, ev360033]
                  rfl
                exact ih360014 (k360014 + 1) _ _ _ _ _ _ (by omega) (by rw [e9]) hR (hML.mono (by omega)) hMD hMU (by rw [e9]; exact hMR) hP hD hS (lv_sub hl [0, 1, 2, 3, 4] rfl)
            · have kc360027 : v360026.toInt = 1 := by have h9 := c360027; rw [xk_eq, xk_1] at h9; exact h9
              refine lv_aload_n hx hb dX7_crash_67 rfl (lv_at hl 2 rfl) ?_
              obtain ⟨j360035, hj360035⟩ := wG_7 (cy := cy) (N := N) (T := T) (I := Ia360014) (Q := Q) (J := Ja360014) (hM.at 0 (by decide)) (hM.k 0 (by decide) rfl)
              refine va_get (D := (dC, dI)) (ci := 7) (v := .ref (T (w 0) 0)) (C := RX7) (T := TX7) (N := 18) hx hb hts hi7 hown hK hP j360035 hj360035 rfl 0 (by decide) (hts (.fieldLink RX7 11 "TallyLogsModel" "log" "[[LTallyLogsModel$Log;") (by decide +kernel)) (fun _ h9 => h9) rfl dX7_crash_68 ?_
              refine W.eq (g2 := F0 m 71 ls [.ref (w 1)]) (by rw [hM.t 0 (by decide)]) ?_
              refine lv_iload hx hb dX7_crash_71 (lv_at hl 0 rfl) ?_
              obtain ⟨j360036, hj360036⟩ := wG_22 (cy := cy) (N := N) (T := T) (I := Ia360014) (Q := Q) (J := Ja360014) (hM.at 1 (by decide)) (hM.k 1 (by decide) rfl)
              refine xg_aldg hx hb hK hP j360036 2 hj360036 rfl hki360014 dX7_crash_73 ?_
              refine W.eq (g2 := F0 m 74 ls [.ref (w (17 + (nI k360014).toNatClampNeg))]) (by rw [hM.qo (vp_lt (n := 4) hki360014)]; rfl) ?_
              refine lv_iload_n hx hb dX7_crash_74 rfl (lv_at hl 3 rfl) ?_
              obtain ⟨j360037, hj360037⟩ := wG_23 (cy := cy) (N := N) (T := T) (I := Ia360014) (Q := Q) (J := Ja360014) (hM.row (vp_lt (n := 4) hki360014)).1 (hM.row (vp_lt (n := 4) hki360014)).2
              refine va_aldq hx hb hK hP j360037 3 hj360037 rfl hup360004.1 dX7_crash_75 ?_
              have hjl360038 : (5 * (nI k360014).toNatClampNeg + xn.toNatClampNeg) < 20 := by have h1 := (vp_lt (n := 4) hki360014); have h2 := (vp_lt (n := 5) hup360004.1); omega
              refine W.eq (g2 := F0 m 76 ls [.ref (w (21 + (5 * (nI k360014).toNatClampNeg + xn.toNatClampNeg)))]) (by rw [hM.qr (vp_lt (n := 4) hki360014) (vp_lt (n := 5) hup360004.1)]; rfl) ?_
              obtain ⟨ha360039, hb360039, hc360039, hd360039, he360039, hf360039⟩ := hML (5 * (nI k360014).toNatClampNeg + xn.toNatClampNeg) hjl360038
              refine lv_astore (lv' := [(5, .ref (w (21 + (5 * (nI k360014).toNatClampNeg + xn.toNatClampNeg)))), (4, .int (nI k360014)), (3, .int y360015), (0, .ref (w 0)), (1, .int xn), (2, .int xk)]) hx hb dX7_crash_76 hl (by decide) rfl (fun ls hl => ?_)
              refine lv_aload hx hb dX7_crash_78 (lv_at hl 0 rfl) ?_
              refine lv_aload hx hb dX7_crash_80 (lv_at hl 0 rfl) ?_
              obtain ⟨j360040, hj360040⟩ := wG_6 (cy := cy) (N := N) (T := T) (I := Ia360014) (Q := Q) (J := Ja360014) (hM.lg hjl360038).1 (hM.lg hjl360038).2
              refine va_get (D := (dC, dI)) (ci := 6) (v := .int (Ia360014 (w (21 + (5 * (nI k360014).toNatClampNeg + xn.toNatClampNeg))) 2)) (C := RX6) (T := TX6) (N := 7) hx hb hts hi6 hown hK hP j360040 hj360040 rfl 2 (by decide) (hts (.fieldLink RX7 89 "TallyLogsModel$Log" "end" "I") (by decide +kernel)) (fun _ h9 => h9) rfl dX7_crash_82 ?_
              refine lv_topi (fun x360041 ex360041 => ?_)
              have sx360041 : x360041 = ((oC5 (sg360013, 0) xn xk k360014).1).2.1 (5 * (nI k360014).toNatClampNeg + xn.toNatClampNeg) 2 := ex360041.trans (hMR.g hjl360038 (by decide) (by decide))
              have tx360041 : x360041.toInt = (Ia360014 (w (21 + (5 * (nI k360014).toNatClampNeg + xn.toNatClampNeg))) 2).toInt := congrArg Int32.toInt ex360041
              refine lv_i2l (v := x360041.toInt64) hx hb dX7_crash_85 rfl ?_
              refine lv_aload hx hb dX7_crash_86 (lv_at hl 0 rfl) ?_
              obtain ⟨j360042, hj360042⟩ := wG_6 (cy := cy) (N := N) (T := T) (I := Ia360014) (Q := Q) (J := Ja360014) (hM.lg hjl360038).1 (hM.lg hjl360038).2
              refine va_get (D := (dC, dI)) (ci := 6) (v := .int (Ia360014 (w (21 + (5 * (nI k360014).toNatClampNeg + xn.toNatClampNeg))) 4)) (C := RX6) (T := TX6) (N := 7) hx hb hts hi6 hown hK hP j360042 hj360042 rfl 4 (by decide) (hts (.fieldLink RX7 158 "TallyLogsModel$Log" "flushed" "I") (by decide +kernel)) (fun _ h9 => h9) rfl dX7_crash_88 ?_
              refine lv_topi (fun x360043 ex360043 => ?_)
              have sx360043 : x360043 = ((oC5 (sg360013, 0) xn xk k360014).1).2.1 (5 * (nI k360014).toNatClampNeg + xn.toNatClampNeg) 4 := ex360043.trans (hMR.g hjl360038 (by decide) (by decide))
              have tx360043 : x360043.toInt = (Ia360014 (w (21 + (5 * (nI k360014).toNatClampNeg + xn.toNatClampNeg))) 4).toInt := congrArg Int32.toInt ex360043
              refine lv_i2l (v := x360043.toInt64) hx hb dX7_crash_91 rfl ?_
              refine lv_iload_n hx hb dX7_crash_92 rfl (lv_at hl 5 rfl) ?_
              refine lv_i2l (v := xk.toInt64) hx hb dX7_crash_93 rfl ?_
              refine t_ladd (v := x360043.toInt64 + xk.toInt64) hx hb dX7_crash_94 rfl ?_
              refine va_mmin_long hx hb (by rw [hml]; exact hl.1.symm) hown (hts (.methodLink RX7 180 Lib.MathLoose.min_long.x) (by decide +kernel)) (hts (.static Lib.MathLoose.min_long.x) (by decide +kernel)) (hts (.initialized "java/lang/Math") (by decide +kernel)) (hts _ (List.mem_of_getElem? (i := 10) rfl)) (Nat.le_of_ble_eq_true rfl) (Nat.le_of_ble_eq_true rfl) (Nat.le_of_ble_eq_true rfl) (Nat.le_of_ble_eq_true rfl) dX7_crash_95 ?_
              refine t_l2i hx hb dX7_crash_98 rfl ?_
              refine lv_topi (fun v360044 ev360044 => ?_)
              have tv360044 : v360044.toInt = min x360041.toInt (x360043.toInt + xk.toInt) := by rw [ev360044]; exact xminl (by omega) (by omega)
              obtain ⟨j360045, hj360045⟩ := wG_6 (cy := cy) (N := N) (T := T) (I := Ia360014) (Q := Q) (J := Ja360014) (hM.lg hjl360038).1 (hM.lg hjl360038).2
              have hDo := hD
              refine va_put (D := (dC, dI)) (ci := 6) (v := .int v360044) (ty := .int) (C := RX6) (T := TX6) (N := 7) hx hb hts hi6 tyX6 tyX6_ok nmX6 hown hK hP hD hS j360045 hj360045 rfl 2 (by decide) (hts (.fieldLink RX7 89 "TallyLogsModel$Log" "end" "I") (by decide +kernel)) (fun _ h9 => h9) rfl (by decide +kernel) rfl rfl (Nat.le_of_ble_eq_true rfl) dX7_crash_99 (fun H locs hP hD hS => ?_)
              have hP := Eq.mp (congrArg (fun w => va_P (dC, dI) vwCl w H) (wP_6_2 (x := v360044) hDo (hM.lg hjl360038).1 (hM.lg hjl360038).2 hj360045)) hP
              obtain ⟨I360046, eI360046⟩ : ∃ z, z = p2 Ia360014 (w (21 + (5 * (nI k360014).toNatClampNeg + xn.toNatClampNeg))) 2 v360044 := ⟨_, rfl⟩
              rw [← eI360046] at hP
              have hD : va_D A (va_pl L (wF cy K N T I360046 Q Ja360014)) := pD hDo
              obtain ⟨sg360047, esg360047⟩ : ∃ z, z = sG ((oC5 (sg360013, 0) xn xk k360014).1) (5 * (nI k360014).toNatClampNeg + xn.toNatClampNeg) 2 v360044 := ⟨_, rfl⟩
              have hMR : MR w I360046 Ja360014 sg360047 := by rw [eI360046, esg360047]; exact hMR.we hM hjl360038 (hMR.lee hjl360038 (by omega))
              have hR : RM w [] I360012 J I360046 Ja360014 := by rw [eI360046]; exact hR.pl hM hjl360038
              have hMU : MU w I360046 := by rw [eI360046]; exact hMU.pl hM hjl360038
              refine lv_aload hx hb dX7_crash_102 (lv_at hl 0 rfl) ?_
              refine lv_aload hx hb dX7_crash_104 (lv_at hl 0 rfl) ?_
              obtain ⟨j360048, hj360048⟩ := wG_6 (cy := cy) (N := N) (T := T) (I := I360046) (Q := Q) (J := Ja360014) (hM.lg hjl360038).1 (hM.lg hjl360038).2
              refine va_get (D := (dC, dI)) (ci := 6) (v := .int (I360046 (w (21 + (5 * (nI k360014).toNatClampNeg + xn.toNatClampNeg))) 3)) (C := RX6) (T := TX6) (N := 7) hx hb hts hi6 hown hK hP j360048 hj360048 rfl 3 (by decide) (hts (.fieldLink RX7 109 "TallyLogsModel$Log" "high" "I") (by decide +kernel)) (fun _ h9 => h9) rfl dX7_crash_106 ?_
              refine lv_topi (fun x360049 ex360049 => ?_)
              have sx360049 : x360049 = sg360047.2.1 (5 * (nI k360014).toNatClampNeg + xn.toNatClampNeg) 3 := ex360049.trans (hMR.g hjl360038 (by decide) (by decide))
              have ex360049 : x360049 = Ia360014 (w (21 + (5 * (nI k360014).toNatClampNeg + xn.toNatClampNeg))) 3 := by rw [ex360049, eI360046, p2_ne _ _ (fun q => absurd q.2 (by decide))]
              have tx360049 : x360049.toInt = (Ia360014 (w (21 + (5 * (nI k360014).toNatClampNeg + xn.toNatClampNeg))) 3).toInt := congrArg Int32.toInt ex360049
              refine lv_aload hx hb dX7_crash_109 (lv_at hl 0 rfl) ?_
              obtain ⟨j360050, hj360050⟩ := wG_6 (cy := cy) (N := N) (T := T) (I := I360046) (Q := Q) (J := Ja360014) (hM.lg hjl360038).1 (hM.lg hjl360038).2
              refine va_get (D := (dC, dI)) (ci := 6) (v := .int (I360046 (w (21 + (5 * (nI k360014).toNatClampNeg + xn.toNatClampNeg))) 2)) (C := RX6) (T := TX6) (N := 7) hx hb hts hi6 hown hK hP j360050 hj360050 rfl 2 (by decide) (hts (.fieldLink RX7 89 "TallyLogsModel$Log" "end" "I") (by decide +kernel)) (fun _ h9 => h9) rfl dX7_crash_111 ?_
              refine lv_topi (fun x360051 ex360051 => ?_)
              have sx360051 : x360051 = sg360047.2.1 (5 * (nI k360014).toNatClampNeg + xn.toNatClampNeg) 2 := ex360051.trans (hMR.g hjl360038 (by decide) (by decide))
              have ex360051 : x360051 = v360044 := by rw [ex360051, eI360046, p2_at]
              have tx360051 : x360051.toInt = v360044.toInt := congrArg Int32.toInt ex360051
              refine va_mmin hx hb (by rw [hml]; exact hl.1.symm) hown (hts (.methodLink RX7 105 Lib.Math.min.name) (by decide +kernel)) (hts (.static Lib.Math.min.name) (by decide +kernel)) (hts (.initialized "java/lang/Math") (by decide +kernel)) (hts _ (List.mem_of_getElem? (i := 14) rfl)) (Nat.le_of_ble_eq_true rfl) (Nat.le_of_ble_eq_true rfl) (Nat.le_of_ble_eq_true rfl) (Nat.le_of_ble_eq_true rfl) dX7_crash_114 ?_
              refine lv_topi (fun z360052 ez360052 => ?_)
              have tz360052 : z360052.toInt = min x360049.toInt x360051.toInt := (xmin_t ez360052)
              obtain ⟨j360053, hj360053⟩ := wG_6 (cy := cy) (N := N) (T := T) (I := I360046) (Q := Q) (J := Ja360014) (hM.lg hjl360038).1 (hM.lg hjl360038).2
              have hDo := hD
              refine va_put (D := (dC, dI)) (ci := 6) (v := .int z360052) (ty := .int) (C := RX6) (T := TX6) (N := 7) hx hb hts hi6 tyX6 tyX6_ok nmX6 hown hK hP hD hS j360053 hj360053 rfl 3 (by decide) (hts (.fieldLink RX7 109 "TallyLogsModel$Log" "high" "I") (by decide +kernel)) (fun _ h9 => h9) rfl (by decide +kernel) rfl rfl (Nat.le_of_ble_eq_true rfl) dX7_crash_117 (fun H locs hP hD hS => ?_)
              have hP := Eq.mp (congrArg (fun w => va_P (dC, dI) vwCl w H) (wP_6_3 (x := z360052) hDo (hM.lg hjl360038).1 (hM.lg hjl360038).2 hj360053)) hP
              obtain ⟨I360054, eI360054⟩ : ∃ z, z = p2 I360046 (w (21 + (5 * (nI k360014).toNatClampNeg + xn.toNatClampNeg))) 3 z360052 := ⟨_, rfl⟩
              rw [← eI360054] at hP
              have hD : va_D A (va_pl L (wF cy K N T I360054 Q Ja360014)) := pD hDo
              obtain ⟨sg360055, esg360055⟩ : ∃ z, z = sG sg360047 (5 * (nI k360014).toNatClampNeg + xn.toNatClampNeg) 3 z360052 := ⟨_, rfl⟩
              have hMR : MR w I360054 Ja360014 sg360055 := by rw [eI360054, esg360055]; exact hMR.wg hM hjl360038 (by decide) (by decide)
              have hR : RM w [] I360012 J I360054 Ja360014 := by rw [eI360054]; exact hR.pl hM hjl360038
              have hMU : MU w I360054 := by rw [eI360054]; exact hMU.pl hM hjl360038
              have q360056_1 : (I360054 (w (21 + (5 * (nI k360014).toNatClampNeg + xn.toNatClampNeg))) 1).toInt = (Ia360014 (w (21 + (5 * (nI k360014).toNatClampNeg + xn.toNatClampNeg))) 1).toInt := by rw [eI360054, p2_ne _ _ (fun q => absurd q.2 (by decide)), eI360046, p2_ne _ _ (fun q => absurd q.2 (by decide))]
              have q360056_2 : (I360054 (w (21 + (5 * (nI k360014).toNatClampNeg + xn.toNatClampNeg))) 2).toInt = v360044.toInt := by rw [eI360054, p2_ne _ _ (fun q => absurd q.2 (by decide)), eI360046, p2_at]
              have q360056_3 : (I360054 (w (21 + (5 * (nI k360014).toNatClampNeg + xn.toNatClampNeg))) 3).toInt = z360052.toInt := by rw [eI360054, p2_at]
              have q360056_4 : (I360054 (w (21 + (5 * (nI k360014).toNatClampNeg + xn.toNatClampNeg))) 4).toInt = (Ia360014 (w (21 + (5 * (nI k360014).toNatClampNeg + xn.toNatClampNeg))) 4).toInt := by rw [eI360054, p2_ne _ _ (fun q => absurd q.2 (by decide)), eI360046, p2_ne _ _ (fun q => absurd q.2 (by decide))]
              have hML : ML w E I360054 := hML.of (j := (5 * (nI k360014).toNatClampNeg + xn.toNatClampNeg)) (fun i hi q => by have hj9 := hjl360038; rw [eI360054, p2_na _ _ (hM.ne (by omega) (by omega) (by omega)), eI360046, p2_na _ _ (hM.ne (by omega) (by omega) (by omega))]) ⟨by omega, by omega, by omega, by omega, by omega, by omega⟩ (by omega)
              refine lv_aload_n hx hb dX7_crash_120 rfl (lv_at hl 3 rfl) ?_
              obtain ⟨j360057, hj360057⟩ := wG_7 (cy := cy) (N := N) (T := T) (I := I360054) (Q := Q) (J := Ja360014) (hM.at 0 (by decide)) (hM.k 0 (by decide) rfl)
              refine va_get (D := (dC, dI)) (ci := 7) (v := .ref (T (w 0) 3)) (C := RX7) (T := TX7) (N := 18) hx hb hts hi7 hown hK hP j360057 hj360057 rfl 3 (by decide) (hts (.fieldLink RX7 22 "TallyLogsModel" "leader" "[I") (by decide +kernel)) (fun _ h9 => h9) rfl dX7_crash_121 ?_
              refine W.eq (g2 := F0 m 124 ls [.ref (w 4)]) (by rw [hM.t 3 (by decide)]) ?_
              refine lv_iload hx hb dX7_crash_124 (lv_at hl 1 rfl) ?_
              obtain ⟨j360058, hj360058⟩ := wG_20 (cy := cy) (N := N) (T := T) (I := I360054) (Q := Q) (J := Ja360014) (hM.at 4 (by decide)) (hM.k 4 (by decide) rfl)
              refine va_iald hx hb hK hP j360058 1 hj360058 rfl (hM.inN (n := 4) 4 (by decide) rfl rfl hki360014) dX7_crash_126 ?_
              refine lv_topi (fun x360059 ex360059 => ?_)
              have sx360059 : x360059 = sg360055.1 4 ((nI k360014).toNatClampNeg) := ex360059.trans (hMR.a (k := 4) (by decide) (by decide) (show _ < 4 from vp_lt (n := 4) hki360014))
              refine lv_iload_n hx hb dX7_crash_127 rfl (lv_at hl 4 rfl) ?_
              refine lv_icmp_ne (tgt := 139) hx hb dX7_crash_128 (by decide) (fun c360060 => ?_) (fun c360060 => ?_)
              · have kc360060 : ¬ (x360059.toInt = xn.toInt) := by have h9 := c360060; rw [xk_eq] at h9; exact h9
                refine lv_aload_n hx hb dX7_crash_139 rfl (lv_at hl 3 rfl) ?_
                obtain ⟨j360061, hj360061⟩ := wG_7 (cy := cy) (N := N) (T := T) (I := I360054) (Q := Q) (J := Ja360014) (hM.at 0 (by decide)) (hM.k 0 (by decide) rfl)
                refine va_get (D := (dC, dI)) (ci := 7) (v := .ref (T (w 0) 6)) (C := RX7) (T := TX7) (N := 18) hx hb hts hi7 hown hK hP j360061 hj360061 rfl 6 (by decide) (hts (.fieldLink RX7 31 "TallyLogsModel" "step" "[I") (by decide +kernel)) (fun _ h9 => h9) rfl dX7_crash_140 ?_
                refine W.eq (g2 := F0 m 143 ls [.ref (w 7)]) (by rw [hM.t 6 (by decide)]) ?_
                refine lv_iload hx hb dX7_crash_143 (lv_at hl 1 rfl) ?_
                obtain ⟨j360062, hj360062⟩ := wG_20 (cy := cy) (N := N) (T := T) (I := I360054) (Q := Q) (J := Ja360014) (hM.at 7 (by decide)) (hM.k 7 (by decide) rfl)
                refine va_iald hx hb hK hP j360062 1 hj360062 rfl (hM.inN (n := 4) 7 (by decide) rfl rfl hki360014) dX7_crash_145 ?_
                refine lv_topi (fun x360063 ex360063 => ?_)
                have sx360063 : x360063 = sg360055.1 7 ((nI k360014).toNatClampNeg) := ex360063.trans (hMR.a (k := 7) (by decide) (by decide) (show _ < 4 from vp_lt (n := 4) hki360014))
                refine lv_iconst (v := 1) hx hb dX7_crash_146 (by decide) ?_
                refine lv_iload_n hx hb dX7_crash_147 rfl (lv_at hl 4 rfl) ?_
                refine lv_ishl hx hb dX7_crash_148 ?_
                refine lv_topi (fun v360064 ev360064 => ?_)
                refine lv_iconst (v := (-1)) hx hb dX7_crash_149 (by decide) ?_
                refine lv_ixor hx hb dX7_crash_150 ?_
                refine lv_topi (fun v360065 ev360065 => ?_)
                refine lv_iand hx hb dX7_crash_151 ?_
                refine lv_topi (fun v360066 ev360066 => ?_)
                refine lv_if_eq (tgt := 170) hx hb dX7_crash_152 (by decide) (fun c360067 => ?_) (fun c360067 => ?_)
                · have kc360067 : v360066.toInt = 0 := by have h9 := c360067; rw [xk_eq, xk_0] at h9; exact h9
                  refine lv_aload_n hx hb dX7_crash_170 rfl (lv_at hl 3 rfl) ?_
                  refine lv_iload hx hb dX7_crash_171 (lv_at hl 1 rfl) ?_
                  obtain ⟨j360068, hj360068⟩ := wG_7 (cy := cy) (N := N) (T := T) (I := I360054) (Q := Q) (J := Ja360014) (hM.at 0 (by decide)) (hM.k 0 (by decide) rfl)
                  have hFc := pfree hD hS hA
                  refine va_callv (va_runV (As := [.int (nI k360014)]) (rest := []) ⟨hx, hb, hml, hown, hts⟩ (f_X7_rise l dC dI cy w L K N T Q I360054 Ja360014 H.size (nI k360014) sg360055 hM hki360014 (hMD _ (vp_lt (n := 4) hki360014)) hMR) (cwV 1 hts gX7_crash_X7_rise rfl rfl rfl (by decide +kernel) ⟨Nat.le_of_ble_eq_true rfl, Nat.le_of_ble_eq_true rfl⟩) ⟨mw_blind, va_recv hK hP (ci := 7) (q0 := j360068) rfl hj360068, fun U hU hW => ⟨rfl, mw_pre hP hK hD hU hW⟩⟩ rfl rfl hl.1 rfl (lv_room (Nat.le_of_ble_eq_true rfl)) dX7_crash_173 ⟨Nat.le_of_ble_eq_true rfl, Nat.le_of_ble_eq_true rfl⟩) hS (fun q _ h => hFc q h) hFc (fun d9 t H1 locs ht hvm hw hB hz1 hk1 hS => ?_)
                  obtain ⟨I360069, J360069⟩ := d9
                  obtain ⟨hP, hK1, hD1⟩ := hB
                  rw [ht] at hP
                  have hD := hD1.weaken (fun _ _ _ h => hFc _ h)
                  generalize H1 = H at hP hS ⊢
                  have hP : va_P (dC, dI) vwCl (va_pl L (wF cy K N T I360069 Q J360069)) H := hP
                  have hD : va_D A (va_pl L (wF cy K N T I360069 Q J360069)) := hD
                  have hMRn := hw.1
                  have hw := hw.2
                  have hw360071 : RZ w I360054 Ja360014 I360069 J360069 (nI k360014).toNatClampNeg := hw
                  have hR : RM w [] I360012 J I360069 J360069 := hR.rz hM (vp_lt (n := 4) hki360014) hw360071
                  have hMD : MD w J360069 := hMD.rz hw360071
                  have hMU : MU w I360069 := hMU.rz hM (vp_lt (n := 4) hki360014) hw360071
                  have hML : ML w E I360069 := hML.rz hM (vp_lt (n := 4) hki360014) hw360071
                  obtain ⟨sg360072, esg360072⟩ : ∃ z, z = oRi sg360055 ((nI k360014).toNatClampNeg) := ⟨_, rfl⟩
                  have hMR : MR w I360069 J360069 sg360072 := by rw [esg360072]; exact hMRn
                  refine lv_aload_n hx hb dX7_crash_176 rfl (lv_at hl 3 rfl) ?_
                  obtain ⟨j360073, hj360073⟩ := wG_7 (cy := cy) (N := N) (T := T) (I := I360069) (Q := Q) (J := J360069) (hM.at 0 (by decide)) (hM.k 0 (by decide) rfl)
                  refine va_get (D := (dC, dI)) (ci := 7) (v := .ref (T (w 0) 3)) (C := RX7) (T := TX7) (N := 18) hx hb hts hi7 hown hK hP j360073 hj360073 rfl 3 (by decide) (hts (.fieldLink RX7 22 "TallyLogsModel" "leader" "[I") (by decide +kernel)) (fun _ h9 => h9) rfl dX7_crash_177 ?_
                  refine W.eq (g2 := F0 m 180 ls [.ref (w 4)]) (by rw [hM.t 3 (by decide)]) ?_
                  refine lv_iload hx hb dX7_crash_180 (lv_at hl 1 rfl) ?_
                  obtain ⟨j360074, hj360074⟩ := wG_20 (cy := cy) (N := N) (T := T) (I := I360069) (Q := Q) (J := J360069) (hM.at 4 (by decide)) (hM.k 4 (by decide) rfl)
                  refine va_iald hx hb hK hP j360074 1 hj360074 rfl (hM.inN (n := 4) 4 (by decide) rfl rfl hki360014) dX7_crash_182 ?_
                  refine lv_topi (fun x360075 ex360075 => ?_)
                  have sx360075 : x360075 = sg360072.1 4 ((nI k360014).toNatClampNeg) := ex360075.trans (hMR.a (k := 4) (by decide) (by decide) (show _ < 4 from vp_lt (n := 4) hki360014))
                  refine lv_if_ge (tgt := 189) hx hb dX7_crash_183 (by decide) (fun c360076 => ?_) (fun c360076 => ?_)
                  · have kc360076 : 0 ≤ x360075.toInt := by have h9 := c360076; rw [xk_le, xk_0] at h9; exact h9
                    obtain ⟨v360077, ev360077⟩ : ∃ y : Int32, y = (nI k360014) + Int32.ofInt 1 := ⟨_, rfl⟩
                    refine lv_iinc (v := v360077) (lv' := [(4, .int v360077), (5, .ref (w (21 + (5 * (nI k360014).toNatClampNeg + xn.toNatClampNeg)))), (3, .int y360015), (0, .ref (w 0)), (1, .int xn), (2, .int xk)]) hx hb dX7_crash_189 hl (k := 1) rfl ev360077.symm (by decide) rfl (fun ls hl => ?_)
                    refine lv_goto (tgt := 33) hx hb dX7_crash_192 (by decide) ?_
                    obtain rfl : v360077 = nI (k360014 + 1) := ev360077.trans (nI_add k360014 1)
                    have hX1 : oC1 (oC5 (sg360013, 0) xn xk k360014).1 (5 * k360014 + xn.toNatClampNeg) xk = sg360055 := by
                      have hv : v360044 = (if ((oC5 (sg360013, 0) xn xk k360014).1.2.1 (5 * k360014 + xn.toNatClampNeg) 4).toInt64 + xk.toInt64 < ((oC5 (sg360013, 0) xn xk k360014).1.2.1 (5 * k360014 + xn.toNatClampNeg) 2).toInt64 then ((oC5 (sg360013, 0) xn xk k360014).1.2.1 (5 * k360014 + xn.toNatClampNeg) 4).toInt64 + xk.toInt64 else ((oC5 (sg360013, 0) xn xk k360014).1.2.1 (5 * k360014 + xn.toNatClampNeg) 2).toInt64).toInt32 := by simp only [ev360044, sx360043, sx360041, hkc360014]
                      rw [oC1, ← hv, esg360055, ez360052, sx360049, sx360051, esg360047, sG_o (f := 2) (g := 3) (by decide), sG_s, imn, hkc360014] <;> rfl
                    have hX2 : oC2 sg360055 k360014 xn = sg360055 := by rw [oC2, if_neg (by have k9 := c360060; simp only [sx360059, hkc360014] at k9; exact k9)]
                    have hX3 : oC3 sg360055 k360014 xn = sg360055 := by rw [oC3, if_pos (by have k9 := c360067; simp only [ev360066, sx360063, ev360065, ev360064, hkc360014] at k9; exact k9)]
                    have hX : (if ((oC5 (sg360013, 0) xn xk k360014).1.1 3 k360014 >>> (xn &&& 31)) &&& 1 = 1 then oRi (oC3 (oC2 (oC1 (oC5 (sg360013, 0) xn xk k360014).1 (5 * k360014 + xn.toNatClampNeg) xk) k360014 xn) k360014 xn) k360014 else (oC5 (sg360013, 0) xn xk k360014).1) = sg360072 := by rw [if_pos (by have k9 := c360027; simp only [ev360026, ev360025, sx360024, hkc360014] at k9; exact k9), hX1, hX2, hX3, esg360072, hkc360014]
                    have e9 : oC5 (sg360013, 0) xn xk (k360014 + 1) = (sg360072, y360015) := by
                      show oC4 (oC5 (sg360013, 0) xn xk k360014) k360014 xn xk = _
                      rw [oC4, if_neg (by have k9 := c360021; simp only [sx360020, hkc360014] at k9; exact k9), hX]
                      rw [if_pos (by have k9 := c360076; simp only [sx360075, hkc360014] at k9; exact k9), ← hiv360014]
                    exact ih360014 (k360014 + 1) _ _ _ _ _ _ (by omega) (by rw [e9]) hR (hML.mono (by omega)) hMD hMU (by rw [e9]; exact hMR) hP hD hS (lv_sub hl [0, 2, 3, 4, 5] rfl)
                  · have kc360076 : ¬ (0 ≤ x360075.toInt) := by have h9 := c360076; rw [xk_le, xk_0] at h9; exact h9
                    obtain ⟨v360078, ev360078⟩ : ∃ y : Int32, y = y360015 + Int32.ofInt 1 := ⟨_, rfl⟩
                    refine lv_iinc (v := v360078) (lv' := [(3, .int v360078), (5, .ref (w (21 + (5 * (nI k360014).toNatClampNeg + xn.toNatClampNeg)))), (4, .int (nI k360014)), (0, .ref (w 0)), (1, .int xn), (2, .int xk)]) hx hb dX7_crash_186 hl (k := 2) rfl ev360078.symm (by decide) rfl (fun ls hl => ?_)
                    obtain ⟨v360079, ev360079⟩ : ∃ y : Int32, y = (nI k360014) + Int32.ofInt 1 := ⟨_, rfl⟩
                    refine lv_iinc (v := v360079) (lv' := [(4, .int v360079), (3, .int v360078), (5, .ref (w (21 + (5 * (nI k360014).toNatClampNeg + xn.toNatClampNeg)))), (0, .ref (w 0)), (1, .int xn), (2, .int xk)]) hx hb dX7_crash_189 hl (k := 2) rfl ev360079.symm (by decide) rfl (fun ls hl => ?_)
                    refine lv_goto (tgt := 33) hx hb dX7_crash_192 (by decide) ?_
                    obtain rfl : v360079 = nI (k360014 + 1) := ev360079.trans (nI_add k360014 1)
                    have hX1 : oC1 (oC5 (sg360013, 0) xn xk k360014).1 (5 * k360014 + xn.toNatClampNeg) xk = sg360055 := by
                      have hv : v360044 = (if ((oC5 (sg360013, 0) xn xk k360014).1.2.1 (5 * k360014 + xn.toNatClampNeg) 4).toInt64 + xk.toInt64 < ((oC5 (sg360013, 0) xn xk k360014).1.2.1 (5 * k360014 + xn.toNatClampNeg) 2).toInt64 then ((oC5 (sg360013, 0) xn xk k360014).1.2.1 (5 * k360014 + xn.toNatClampNeg) 4).toInt64 + xk.toInt64 else ((oC5 (sg360013, 0) xn xk k360014).1.2.1 (5 * k360014 + xn.toNatClampNeg) 2).toInt64).toInt32 := by simp only [ev360044, sx360043, sx360041, hkc360014]
                      rw [oC1, ← hv, esg360055, ez360052, sx360049, sx360051, esg360047, sG_o (f := 2) (g := 3) (by decide), sG_s, imn, hkc360014] <;> rfl
                    have hX2 : oC2 sg360055 k360014 xn = sg360055 := by rw [oC2, if_neg (by have k9 := c360060; simp only [sx360059, hkc360014] at k9; exact k9)]
                    have hX3 : oC3 sg360055 k360014 xn = sg360055 := by rw [oC3, if_pos (by have k9 := c360067; simp only [ev360066, sx360063, ev360065, ev360064, hkc360014] at k9; exact k9)]
                    have hX : (if ((oC5 (sg360013, 0) xn xk k360014).1.1 3 k360014 >>> (xn &&& 31)) &&& 1 = 1 then oRi (oC3 (oC2 (oC1 (oC5 (sg360013, 0) xn xk k360014).1 (5 * k360014 + xn.toNatClampNeg) xk) k360014 xn) k360014 xn) k360014 else (oC5 (sg360013, 0) xn xk k360014).1) = sg360072 := by rw [if_pos (by have k9 := c360027; simp only [ev360026, ev360025, sx360024, hkc360014] at k9; exact k9), hX1, hX2, hX3, esg360072, hkc360014]
                    have e9 : oC5 (sg360013, 0) xn xk (k360014 + 1) = (sg360072, v360078) := by
                      show oC4 (oC5 (sg360013, 0) xn xk k360014) k360014 xn xk = _
                      rw [oC4, if_neg (by have k9 := c360021; simp only [sx360020, hkc360014] at k9; exact k9), hX]
                      rw [if_neg (by have k9 := c360076; simp only [sx360075, hkc360014] at k9; exact k9), ← hiv360014, ev360078]
                      rfl
                    exact ih360014 (k360014 + 1) _ _ _ _ _ _ (by omega) (by rw [e9]) hR (hML.mono (by omega)) hMD hMU (by rw [e9]; exact hMR) hP hD hS (lv_sub hl [0, 1, 3, 4, 5] rfl)
                · have kc360067 : ¬ (v360066.toInt = 0) := by have h9 := c360067; rw [xk_eq, xk_0] at h9; exact h9
                  refine lv_aload_n hx hb dX7_crash_155 rfl (lv_at hl 3 rfl) ?_
                  obtain ⟨j360080, hj360080⟩ := wG_7 (cy := cy) (N := N) (T := T) (I := I360054) (Q := Q) (J := Ja360014) (hM.at 0 (by decide)) (hM.k 0 (by decide) rfl)
                  refine va_get (D := (dC, dI)) (ci := 7) (v := .ref (T (w 0) 6)) (C := RX7) (T := TX7) (N := 18) hx hb hts hi7 hown hK hP j360080 hj360080 rfl 6 (by decide) (hts (.fieldLink RX7 31 "TallyLogsModel" "step" "[I") (by decide +kernel)) (fun _ h9 => h9) rfl dX7_crash_156 ?_
                  refine W.eq (g2 := F0 m 159 ls [.ref (w 7)]) (by rw [hM.t 6 (by decide)]) ?_
                  refine lv_iload hx hb dX7_crash_159 (lv_at hl 1 rfl) ?_
                  refine lv_dup2_11 hx hb dX7_crash_161 rfl rfl ?_
                  obtain ⟨j360081, hj360081⟩ := wG_20 (cy := cy) (N := N) (T := T) (I := I360054) (Q := Q) (J := Ja360014) (hM.at 7 (by decide)) (hM.k 7 (by decide) rfl)
                  refine va_iald hx hb hK hP j360081 1 hj360081 rfl (hM.inN (n := 4) 7 (by decide) rfl rfl hki360014) dX7_crash_162 ?_
                  refine lv_topi (fun x360082 ex360082 => ?_)
                  have sx360082 : x360082 = sg360055.1 7 ((nI k360014).toNatClampNeg) := ex360082.trans (hMR.a (k := 7) (by decide) (by decide) (show _ < 4 from vp_lt (n := 4) hki360014))
                  refine lv_iconst (v := 1) hx hb dX7_crash_163 (by decide) ?_
                  refine lv_iload_n hx hb dX7_crash_164 rfl (lv_at hl 4 rfl) ?_
                  refine lv_ishl hx hb dX7_crash_165 ?_
                  refine lv_topi (fun v360083 ev360083 => ?_)
                  refine lv_iconst (v := (-1)) hx hb dX7_crash_166 (by decide) ?_
                  refine lv_ixor hx hb dX7_crash_167 ?_
                  refine lv_topi (fun v360084 ev360084 => ?_)
                  refine lv_iand hx hb dX7_crash_168 ?_
                  refine lv_topi (fun v360085 ev360085 => ?_)
                  obtain ⟨j360086, hj360086⟩ := wG_20 (cy := cy) (N := N) (T := T) (I := I360054) (Q := Q) (J := Ja360014) (hM.at 7 (by decide)) (hM.k 7 (by decide) rfl)
                  have hDo := hD
                  refine va_iast (x := v360085) hx hb hK hP hD hS j360086 1 hj360086 rfl (hM.inN (n := 4) 7 (by decide) rfl rfl hki360014) dX7_crash_169 (fun H locs hP hD hS => ?_)
                  have hP := Eq.mp (congrArg (fun w => va_P (dC, dI) vwCl w H) (wS_20 hDo (hM.at 7 (by decide)) (hM.k 7 (by decide) rfl) hj360086)) hP
                  obtain ⟨J360087, eJ360087⟩ : ∃ z, z = va_up Ja360014 (w 7) (upd (Ja360014 (w 7)) (nI k360014).toNatClampNeg v360085) := ⟨_, rfl⟩
                  rw [← eJ360087] at hP
                  have hR : RM w [] I360012 J I360054 J360087 := by rw [eJ360087]; exact hR.pj hM (by decide) (by decide)
                  have hMD : MD w J360087 := by
                    rw [eJ360087, ev360085, ex360082, ev360084, ev360083]
                    exact hMD.p7 hM ((hMD _ (vp_lt (n := 4) hki360014)).clr hup360004.1 (fun q => c360060 (by rw [ex360059]; exact q)))
                  have hD : va_D A (va_pl L (wF cy K N T I360054 Q J360087)) := pD hDo
                  obtain ⟨sg360088, esg360088⟩ : ∃ z, z = sA sg360055 7 ((nI k360014).toNatClampNeg) v360085 := ⟨_, rfl⟩
                  have hMR : MR w I360054 J360087 sg360088 := by rw [eJ360087, esg360088]; exact hMR.wa hM (by decide) (by decide)
                  refine lv_aload_n hx hb dX7_crash_170 rfl (lv_at hl 3 rfl) ?_
                  refine lv_iload hx hb dX7_crash_171 (lv_at hl 1 rfl) ?_
                  obtain ⟨j360089, hj360089⟩ := wG_7 (cy := cy) (N := N) (T := T) (I := I360054) (Q := Q) (J := J360087) (hM.at 0 (by decide)) (hM.k 0 (by decide) rfl)
                  have hFc := pfree hD hS hA
                  refine va_callv (va_runV (As := [.int (nI k360014)]) (rest := []) ⟨hx, hb, hml, hown, hts⟩ (f_X7_rise l dC dI cy w L K N T Q I360054 J360087 H.size (nI k360014) sg360088 hM hki360014 (hMD _ (vp_lt (n := 4) hki360014)) hMR) (cwV 1 hts gX7_crash_X7_rise rfl rfl rfl (by decide +kernel) ⟨Nat.le_of_ble_eq_true rfl, Nat.le_of_ble_eq_true rfl⟩) ⟨mw_blind, va_recv hK hP (ci := 7) (q0 := j360089) rfl hj360089, fun U hU hW => ⟨rfl, mw_pre hP hK hD hU hW⟩⟩ rfl rfl hl.1 rfl (lv_room (Nat.le_of_ble_eq_true rfl)) dX7_crash_173 ⟨Nat.le_of_ble_eq_true rfl, Nat.le_of_ble_eq_true rfl⟩) hS (fun q _ h => hFc q h) hFc (fun d9 t H1 locs ht hvm hw hB hz1 hk1 hS => ?_)
                  obtain ⟨I360090, J360090⟩ := d9
                  obtain ⟨hP, hK1, hD1⟩ := hB
                  rw [ht] at hP
                  have hD := hD1.weaken (fun _ _ _ h => hFc _ h)
                  generalize H1 = H at hP hS ⊢
                  have hP : va_P (dC, dI) vwCl (va_pl L (wF cy K N T I360090 Q J360090)) H := hP
                  have hD : va_D A (va_pl L (wF cy K N T I360090 Q J360090)) := hD
                  have hMRn := hw.1
                  have hw := hw.2
                  have hw360092 : RZ w I360054 J360087 I360090 J360090 (nI k360014).toNatClampNeg := hw
                  have hR : RM w [] I360012 J I360090 J360090 := hR.rz hM (vp_lt (n := 4) hki360014) hw360092
                  have hMD : MD w J360090 := hMD.rz hw360092
                  have hMU : MU w I360090 := hMU.rz hM (vp_lt (n := 4) hki360014) hw360092
                  have hML : ML w E I360090 := hML.rz hM (vp_lt (n := 4) hki360014) hw360092
                  obtain ⟨sg360093, esg360093⟩ : ∃ z, z = oRi sg360088 ((nI k360014).toNatClampNeg) := ⟨_, rfl⟩
                  have hMR : MR w I360090 J360090 sg360093 := by rw [esg360093]; exact hMRn
                  refine lv_aload_n hx hb dX7_crash_176 rfl (lv_at hl 3 rfl) ?_
                  obtain ⟨j360094, hj360094⟩ := wG_7 (cy := cy) (N := N) (T := T) (I := I360090) (Q := Q) (J := J360090) (hM.at 0 (by decide)) (hM.k 0 (by decide) rfl)
                  refine va_get (D := (dC, dI)) (ci := 7) (v := .ref (T (w 0) 3)) (C := RX7) (T := TX7) (N := 18) hx hb hts hi7 hown hK hP j360094 hj360094 rfl 3 (by decide) (hts (.fieldLink RX7 22 "TallyLogsModel" "leader" "[I") (by decide +kernel)) (fun _ h9 => h9) rfl dX7_crash_177 ?_
                  refine W.eq (g2 := F0 m 180 ls [.ref (w 4)]) (by rw [hM.t 3 (by decide)]) ?_
                  refine lv_iload hx hb dX7_crash_180 (lv_at hl 1 rfl) ?_
                  obtain ⟨j360095, hj360095⟩ := wG_20 (cy := cy) (N := N) (T := T) (I := I360090) (Q := Q) (J := J360090) (hM.at 4 (by decide)) (hM.k 4 (by decide) rfl)
                  refine va_iald hx hb hK hP j360095 1 hj360095 rfl (hM.inN (n := 4) 4 (by decide) rfl rfl hki360014) dX7_crash_182 ?_
                  refine lv_topi (fun x360096 ex360096 => ?_)
                  have sx360096 : x360096 = sg360093.1 4 ((nI k360014).toNatClampNeg) := ex360096.trans (hMR.a (k := 4) (by decide) (by decide) (show _ < 4 from vp_lt (n := 4) hki360014))
                  refine lv_if_ge (tgt := 189) hx hb dX7_crash_183 (by decide) (fun c360097 => ?_) (fun c360097 => ?_)
                  · have kc360097 : 0 ≤ x360096.toInt := by have h9 := c360097; rw [xk_le, xk_0] at h9; exact h9
                    obtain ⟨v360098, ev360098⟩ : ∃ y : Int32, y = (nI k360014) + Int32.ofInt 1 := ⟨_, rfl⟩
                    refine lv_iinc (v := v360098) (lv' := [(4, .int v360098), (5, .ref (w (21 + (5 * (nI k360014).toNatClampNeg + xn.toNatClampNeg)))), (3, .int y360015), (0, .ref (w 0)), (1, .int xn), (2, .int xk)]) hx hb dX7_crash_189 hl (k := 1) rfl ev360098.symm (by decide) rfl (fun ls hl => ?_)
                    refine lv_goto (tgt := 33) hx hb dX7_crash_192 (by decide) ?_
                    obtain rfl : v360098 = nI (k360014 + 1) := ev360098.trans (nI_add k360014 1)
                    have hX1 : oC1 (oC5 (sg360013, 0) xn xk k360014).1 (5 * k360014 + xn.toNatClampNeg) xk = sg360055 := by
                      have hv : v360044 = (if ((oC5 (sg360013, 0) xn xk k360014).1.2.1 (5 * k360014 + xn.toNatClampNeg) 4).toInt64 + xk.toInt64 < ((oC5 (sg360013, 0) xn xk k360014).1.2.1 (5 * k360014 + xn.toNatClampNeg) 2).toInt64 then ((oC5 (sg360013, 0) xn xk k360014).1.2.1 (5 * k360014 + xn.toNatClampNeg) 4).toInt64 + xk.toInt64 else ((oC5 (sg360013, 0) xn xk k360014).1.2.1 (5 * k360014 + xn.toNatClampNeg) 2).toInt64).toInt32 := by simp only [ev360044, sx360043, sx360041, hkc360014]
                      rw [oC1, ← hv, esg360055, ez360052, sx360049, sx360051, esg360047, sG_o (f := 2) (g := 3) (by decide), sG_s, imn, hkc360014] <;> rfl
                    have hX2 : oC2 sg360055 k360014 xn = sg360055 := by rw [oC2, if_neg (by have k9 := c360060; simp only [sx360059, hkc360014] at k9; exact k9)]
                    have hX3 : oC3 sg360055 k360014 xn = sg360088 := by rw [oC3, if_neg (by have k9 := c360067; simp only [ev360066, sx360063, ev360065, ev360064, hkc360014] at k9; exact k9), esg360088]; simp only [ev360085, sx360082, ev360084, ev360083, hkc360014]
                    have hX : (if ((oC5 (sg360013, 0) xn xk k360014).1.1 3 k360014 >>> (xn &&& 31)) &&& 1 = 1 then oRi (oC3 (oC2 (oC1 (oC5 (sg360013, 0) xn xk k360014).1 (5 * k360014 + xn.toNatClampNeg) xk) k360014 xn) k360014 xn) k360014 else (oC5 (sg360013, 0) xn xk k360014).1) = sg360093 := by rw [if_pos (by have k9 := c360027; simp only [ev360026, ev360025, sx360024, hkc360014] at k9; exact k9), hX1, hX2, hX3, esg360093, hkc360014]
                    have e9 : oC5 (sg360013, 0) xn xk (k360014 + 1) = (sg360093, y360015) := by
                      show oC4 (oC5 (sg360013, 0) xn xk k360014) k360014 xn xk = _
                      rw [oC4, if_neg (by have k9 := c360021; simp only [sx360020, hkc360014] at k9; exact k9), hX]
                      rw [if_pos (by have k9 := c360097; simp only [sx360096, hkc360014] at k9; exact k9), ← hiv360014]
                    exact ih360014 (k360014 + 1) _ _ _ _ _ _ (by omega) (by rw [e9]) hR (hML.mono (by omega)) hMD hMU (by rw [e9]; exact hMR) hP hD hS (lv_sub hl [0, 2, 3, 4, 5] rfl)
                  · have kc360097 : ¬ (0 ≤ x360096.toInt) := by have h9 := c360097; rw [xk_le, xk_0] at h9; exact h9
                    obtain ⟨v360099, ev360099⟩ : ∃ y : Int32, y = y360015 + Int32.ofInt 1 := ⟨_, rfl⟩
                    refine lv_iinc (v := v360099) (lv' := [(3, .int v360099), (5, .ref (w (21 + (5 * (nI k360014).toNatClampNeg + xn.toNatClampNeg)))), (4, .int (nI k360014)), (0, .ref (w 0)), (1, .int xn), (2, .int xk)]) hx hb dX7_crash_186 hl (k := 2) rfl ev360099.symm (by decide) rfl (fun ls hl => ?_)
                    obtain ⟨v360100, ev360100⟩ : ∃ y : Int32, y = (nI k360014) + Int32.ofInt 1 := ⟨_, rfl⟩
                    refine lv_iinc (v := v360100) (lv' := [(4, .int v360100), (3, .int v360099), (5, .ref (w (21 + (5 * (nI k360014).toNatClampNeg + xn.toNatClampNeg)))), (0, .ref (w 0)), (1, .int xn), (2, .int xk)]) hx hb dX7_crash_189 hl (k := 2) rfl ev360100.symm (by decide) rfl (fun ls hl => ?_)
                    refine lv_goto (tgt := 33) hx hb dX7_crash_192 (by decide) ?_
                    obtain rfl : v360100 = nI (k360014 + 1) := ev360100.trans (nI_add k360014 1)
                    have hX1 : oC1 (oC5 (sg360013, 0) xn xk k360014).1 (5 * k360014 + xn.toNatClampNeg) xk = sg360055 := by
                      have hv : v360044 = (if ((oC5 (sg360013, 0) xn xk k360014).1.2.1 (5 * k360014 + xn.toNatClampNeg) 4).toInt64 + xk.toInt64 < ((oC5 (sg360013, 0) xn xk k360014).1.2.1 (5 * k360014 + xn.toNatClampNeg) 2).toInt64 then ((oC5 (sg360013, 0) xn xk k360014).1.2.1 (5 * k360014 + xn.toNatClampNeg) 4).toInt64 + xk.toInt64 else ((oC5 (sg360013, 0) xn xk k360014).1.2.1 (5 * k360014 + xn.toNatClampNeg) 2).toInt64).toInt32 := by simp only [ev360044, sx360043, sx360041, hkc360014]
                      rw [oC1, ← hv, esg360055, ez360052, sx360049, sx360051, esg360047, sG_o (f := 2) (g := 3) (by decide), sG_s, imn, hkc360014] <;> rfl
                    have hX2 : oC2 sg360055 k360014 xn = sg360055 := by rw [oC2, if_neg (by have k9 := c360060; simp only [sx360059, hkc360014] at k9; exact k9)]
                    have hX3 : oC3 sg360055 k360014 xn = sg360088 := by rw [oC3, if_neg (by have k9 := c360067; simp only [ev360066, sx360063, ev360065, ev360064, hkc360014] at k9; exact k9), esg360088]; simp only [ev360085, sx360082, ev360084, ev360083, hkc360014]
                    have hX : (if ((oC5 (sg360013, 0) xn xk k360014).1.1 3 k360014 >>> (xn &&& 31)) &&& 1 = 1 then oRi (oC3 (oC2 (oC1 (oC5 (sg360013, 0) xn xk k360014).1 (5 * k360014 + xn.toNatClampNeg) xk) k360014 xn) k360014 xn) k360014 else (oC5 (sg360013, 0) xn xk k360014).1) = sg360093 := by rw [if_pos (by have k9 := c360027; simp only [ev360026, ev360025, sx360024, hkc360014] at k9; exact k9), hX1, hX2, hX3, esg360093, hkc360014]
                    have e9 : oC5 (sg360013, 0) xn xk (k360014 + 1) = (sg360093, v360099) := by
                      show oC4 (oC5 (sg360013, 0) xn xk k360014) k360014 xn xk = _
                      rw [oC4, if_neg (by have k9 := c360021; simp only [sx360020, hkc360014] at k9; exact k9), hX]
                      rw [if_neg (by have k9 := c360097; simp only [sx360096, hkc360014] at k9; exact k9), ← hiv360014, ev360099]
                      rfl
                    exact ih360014 (k360014 + 1) _ _ _ _ _ _ (by omega) (by rw [e9]) hR (hML.mono (by omega)) hMD hMU (by rw [e9]; exact hMR) hP hD hS (lv_sub hl [0, 1, 3, 4, 5] rfl)
              · have kc360060 : x360059.toInt = xn.toInt := by have h9 := c360060; rw [xk_eq] at h9; exact h9
                refine lv_aload_n hx hb dX7_crash_131 rfl (lv_at hl 3 rfl) ?_
                obtain ⟨j360101, hj360101⟩ := wG_7 (cy := cy) (N := N) (T := T) (I := I360054) (Q := Q) (J := Ja360014) (hM.at 0 (by decide)) (hM.k 0 (by decide) rfl)
                refine va_get (D := (dC, dI)) (ci := 7) (v := .ref (T (w 0) 3)) (C := RX7) (T := TX7) (N := 18) hx hb hts hi7 hown hK hP j360101 hj360101 rfl 3 (by decide) (hts (.fieldLink RX7 22 "TallyLogsModel" "leader" "[I") (by decide +kernel)) (fun _ h9 => h9) rfl dX7_crash_132 ?_
                refine W.eq (g2 := F0 m 135 ls [.ref (w 4)]) (by rw [hM.t 3 (by decide)]) ?_
                refine lv_iload hx hb dX7_crash_135 (lv_at hl 1 rfl) ?_
                refine lv_iconst (v := (-1)) hx hb dX7_crash_137 (by decide) ?_
                obtain ⟨j360102, hj360102⟩ := wG_20 (cy := cy) (N := N) (T := T) (I := I360054) (Q := Q) (J := Ja360014) (hM.at 4 (by decide)) (hM.k 4 (by decide) rfl)
                have hDo := hD
                refine va_iast (x := (-1)) hx hb hK hP hD hS j360102 1 hj360102 rfl (hM.inN (n := 4) 4 (by decide) rfl rfl hki360014) dX7_crash_138 (fun H locs hP hD hS => ?_)
                have hP := Eq.mp (congrArg (fun w => va_P (dC, dI) vwCl w H) (wS_20 hDo (hM.at 4 (by decide)) (hM.k 4 (by decide) rfl) hj360102)) hP
                obtain ⟨J360103, eJ360103⟩ : ∃ z, z = va_up Ja360014 (w 4) (upd (Ja360014 (w 4)) (nI k360014).toNatClampNeg (-1)) := ⟨_, rfl⟩
                rw [← eJ360103] at hP
                have hR : RM w [] I360012 J I360054 J360103 := by rw [eJ360103]; exact hR.pj hM (by decide) (by decide)
                have hMD : MD w J360103 := by rw [eJ360103]; exact MD.p4 hM (fun p hp _ => hMD p hp) (Or.inl (by decide))
                have hD : va_D A (va_pl L (wF cy K N T I360054 Q J360103)) := pD hDo
                obtain ⟨sg360104, esg360104⟩ : ∃ z, z = sA sg360055 4 ((nI k360014).toNatClampNeg) (-1) := ⟨_, rfl⟩
                have hMR : MR w I360054 J360103 sg360104 := by rw [eJ360103, esg360104]; exact hMR.wa hM (by decide) (by decide)
                refine lv_aload_n hx hb dX7_crash_139 rfl (lv_at hl 3 rfl) ?_
                obtain ⟨j360105, hj360105⟩ := wG_7 (cy := cy) (N := N) (T := T) (I := I360054) (Q := Q) (J := J360103) (hM.at 0 (by decide)) (hM.k 0 (by decide) rfl)
                refine va_get (D := (dC, dI)) (ci := 7) (v := .ref (T (w 0) 6)) (C := RX7) (T := TX7) (N := 18) hx hb hts hi7 hown hK hP j360105 hj360105 rfl 6 (by decide) (hts (.fieldLink RX7 31 "TallyLogsModel" "step" "[I") (by decide +kernel)) (fun _ h9 => h9) rfl dX7_crash_140 ?_
                refine W.eq (g2 := F0 m 143 ls [.ref (w 7)]) (by rw [hM.t 6 (by decide)]) ?_
                refine lv_iload hx hb dX7_crash_143 (lv_at hl 1 rfl) ?_
                obtain ⟨j360106, hj360106⟩ := wG_20 (cy := cy) (N := N) (T := T) (I := I360054) (Q := Q) (J := J360103) (hM.at 7 (by decide)) (hM.k 7 (by decide) rfl)
                refine va_iald hx hb hK hP j360106 1 hj360106 rfl (hM.inN (n := 4) 7 (by decide) rfl rfl hki360014) dX7_crash_145 ?_
                refine lv_topi (fun x360107 ex360107 => ?_)
                have sx360107 : x360107 = sg360104.1 7 ((nI k360014).toNatClampNeg) := ex360107.trans (hMR.a (k := 7) (by decide) (by decide) (show _ < 4 from vp_lt (n := 4) hki360014))
                refine lv_iconst (v := 1) hx hb dX7_crash_146 (by decide) ?_
                refine lv_iload_n hx hb dX7_crash_147 rfl (lv_at hl 4 rfl) ?_
                refine lv_ishl hx hb dX7_crash_148 ?_
                refine lv_topi (fun v360108 ev360108 => ?_)
                refine lv_iconst (v := (-1)) hx hb dX7_crash_149 (by decide) ?_
                refine lv_ixor hx hb dX7_crash_150 ?_
                refine lv_topi (fun v360109 ev360109 => ?_)
                refine lv_iand hx hb dX7_crash_151 ?_
                refine lv_topi (fun v360110 ev360110 => ?_)
                refine lv_if_eq (tgt := 170) hx hb dX7_crash_152 (by decide) (fun c360111 => ?_) (fun c360111 => ?_)
                · have kc360111 : v360110.toInt = 0 := by have h9 := c360111; rw [xk_eq, xk_0] at h9; exact h9
                  refine lv_aload_n hx hb dX7_crash_170 rfl (lv_at hl 3 rfl) ?_
                  refine lv_iload hx hb dX7_crash_171 (lv_at hl 1 rfl) ?_
                  obtain ⟨j360112, hj360112⟩ := wG_7 (cy := cy) (N := N) (T := T) (I := I360054) (Q := Q) (J := J360103) (hM.at 0 (by decide)) (hM.k 0 (by decide) rfl)
                  have hFc := pfree hD hS hA
                  refine va_callv (va_runV (As := [.int (nI k360014)]) (rest := []) ⟨hx, hb, hml, hown, hts⟩ (f_X7_rise l dC dI cy w L K N T Q I360054 J360103 H.size (nI k360014) sg360104 hM hki360014 (hMD _ (vp_lt (n := 4) hki360014)) hMR) (cwV 1 hts gX7_crash_X7_rise rfl rfl rfl (by decide +kernel) ⟨Nat.le_of_ble_eq_true rfl, Nat.le_of_ble_eq_true rfl⟩) ⟨mw_blind, va_recv hK hP (ci := 7) (q0 := j360112) rfl hj360112, fun U hU hW => ⟨rfl, mw_pre hP hK hD hU hW⟩⟩ rfl rfl hl.1 rfl (lv_room (Nat.le_of_ble_eq_true rfl)) dX7_crash_173 ⟨Nat.le_of_ble_eq_true rfl, Nat.le_of_ble_eq_true rfl⟩) hS (fun q _ h => hFc q h) hFc (fun d9 t H1 locs ht hvm hw hB hz1 hk1 hS => ?_)
                  obtain ⟨I360113, J360113⟩ := d9
                  obtain ⟨hP, hK1, hD1⟩ := hB
                  rw [ht] at hP
                  have hD := hD1.weaken (fun _ _ _ h => hFc _ h)
                  generalize H1 = H at hP hS ⊢
                  have hP : va_P (dC, dI) vwCl (va_pl L (wF cy K N T I360113 Q J360113)) H := hP
                  have hD : va_D A (va_pl L (wF cy K N T I360113 Q J360113)) := hD
                  have hMRn := hw.1
                  have hw := hw.2
                  have hw360115 : RZ w I360054 J360103 I360113 J360113 (nI k360014).toNatClampNeg := hw
                  have hR : RM w [] I360012 J I360113 J360113 := hR.rz hM (vp_lt (n := 4) hki360014) hw360115
                  have hMD : MD w J360113 := hMD.rz hw360115
                  have hMU : MU w I360113 := hMU.rz hM (vp_lt (n := 4) hki360014) hw360115
                  have hML : ML w E I360113 := hML.rz hM (vp_lt (n := 4) hki360014) hw360115
                  obtain ⟨sg360116, esg360116⟩ : ∃ z, z = oRi sg360104 ((nI k360014).toNatClampNeg) := ⟨_, rfl⟩
                  have hMR : MR w I360113 J360113 sg360116 := by rw [esg360116]; exact hMRn
                  refine lv_aload_n hx hb dX7_crash_176 rfl (lv_at hl 3 rfl) ?_
                  obtain ⟨j360117, hj360117⟩ := wG_7 (cy := cy) (N := N) (T := T) (I := I360113) (Q := Q) (J := J360113) (hM.at 0 (by decide)) (hM.k 0 (by decide) rfl)
                  refine va_get (D := (dC, dI)) (ci := 7) (v := .ref (T (w 0) 3)) (C := RX7) (T := TX7) (N := 18) hx hb hts hi7 hown hK hP j360117 hj360117 rfl 3 (by decide) (hts (.fieldLink RX7 22 "TallyLogsModel" "leader" "[I") (by decide +kernel)) (fun _ h9 => h9) rfl dX7_crash_177 ?_
                  refine W.eq (g2 := F0 m 180 ls [.ref (w 4)]) (by rw [hM.t 3 (by decide)]) ?_
                  refine lv_iload hx hb dX7_crash_180 (lv_at hl 1 rfl) ?_
                  obtain ⟨j360118, hj360118⟩ := wG_20 (cy := cy) (N := N) (T := T) (I := I360113) (Q := Q) (J := J360113) (hM.at 4 (by decide)) (hM.k 4 (by decide) rfl)
                  refine va_iald hx hb hK hP j360118 1 hj360118 rfl (hM.inN (n := 4) 4 (by decide) rfl rfl hki360014) dX7_crash_182 ?_
                  refine lv_topi (fun x360119 ex360119 => ?_)
                  have sx360119 : x360119 = sg360116.1 4 ((nI k360014).toNatClampNeg) := ex360119.trans (hMR.a (k := 4) (by decide) (by decide) (show _ < 4 from vp_lt (n := 4) hki360014))
                  refine lv_if_ge (tgt := 189) hx hb dX7_crash_183 (by decide) (fun c360120 => ?_) (fun c360120 => ?_)
                  · have kc360120 : 0 ≤ x360119.toInt := by have h9 := c360120; rw [xk_le, xk_0] at h9; exact h9
                    obtain ⟨v360121, ev360121⟩ : ∃ y : Int32, y = (nI k360014) + Int32.ofInt 1 := ⟨_, rfl⟩
                    refine lv_iinc (v := v360121) (lv' := [(4, .int v360121), (5, .ref (w (21 + (5 * (nI k360014).toNatClampNeg + xn.toNatClampNeg)))), (3, .int y360015), (0, .ref (w 0)), (1, .int xn), (2, .int xk)]) hx hb dX7_crash_189 hl (k := 1) rfl ev360121.symm (by decide) rfl (fun ls hl => ?_)
                    refine lv_goto (tgt := 33) hx hb dX7_crash_192 (by decide) ?_
                    obtain rfl : v360121 = nI (k360014 + 1) := ev360121.trans (nI_add k360014 1)
                    have hX1 : oC1 (oC5 (sg360013, 0) xn xk k360014).1 (5 * k360014 + xn.toNatClampNeg) xk = sg360055 := by
                      have hv : v360044 = (if ((oC5 (sg360013, 0) xn xk k360014).1.2.1 (5 * k360014 + xn.toNatClampNeg) 4).toInt64 + xk.toInt64 < ((oC5 (sg360013, 0) xn xk k360014).1.2.1 (5 * k360014 + xn.toNatClampNeg) 2).toInt64 then ((oC5 (sg360013, 0) xn xk k360014).1.2.1 (5 * k360014 + xn.toNatClampNeg) 4).toInt64 + xk.toInt64 else ((oC5 (sg360013, 0) xn xk k360014).1.2.1 (5 * k360014 + xn.toNatClampNeg) 2).toInt64).toInt32 := by simp only [ev360044, sx360043, sx360041, hkc360014]
                      rw [oC1, ← hv, esg360055, ez360052, sx360049, sx360051, esg360047, sG_o (f := 2) (g := 3) (by decide), sG_s, imn, hkc360014] <;> rfl
                    have hX2 : oC2 sg360055 k360014 xn = sg360104 := by rw [oC2, if_pos (by have k9 := c360060; simp only [sx360059, hkc360014] at k9; exact k9), esg360104, hkc360014]
                    have hX3 : oC3 sg360104 k360014 xn = sg360104 := by rw [oC3, if_pos (by have k9 := c360111; simp only [ev360110, sx360107, ev360109, ev360108, hkc360014] at k9; exact k9)]
                    have hX : (if ((oC5 (sg360013, 0) xn xk k360014).1.1 3 k360014 >>> (xn &&& 31)) &&& 1 = 1 then oRi (oC3 (oC2 (oC1 (oC5 (sg360013, 0) xn xk k360014).1 (5 * k360014 + xn.toNatClampNeg) xk) k360014 xn) k360014 xn) k360014 else (oC5 (sg360013, 0) xn xk k360014).1) = sg360116 := by rw [if_pos (by have k9 := c360027; simp only [ev360026, ev360025, sx360024, hkc360014] at k9; exact k9), hX1, hX2, hX3, esg360116, hkc360014]
                    have e9 : oC5 (sg360013, 0) xn xk (k360014 + 1) = (sg360116, y360015) := by
                      show oC4 (oC5 (sg360013, 0) xn xk k360014) k360014 xn xk = _
                      rw [oC4, if_neg (by have k9 := c360021; simp only [sx360020, hkc360014] at k9; exact k9), hX]
                      rw [if_pos (by have k9 := c360120; simp only [sx360119, hkc360014] at k9; exact k9), ← hiv360014]
                    exact ih360014 (k360014 + 1) _ _ _ _ _ _ (by omega) (by rw [e9]) hR (hML.mono (by omega)) hMD hMU (by rw [e9]; exact hMR) hP hD hS (lv_sub hl [0, 2, 3, 4, 5] rfl)
                  · have kc360120 : ¬ (0 ≤ x360119.toInt) := by have h9 := c360120; rw [xk_le, xk_0] at h9; exact h9
                    obtain ⟨v360122, ev360122⟩ : ∃ y : Int32, y = y360015 + Int32.ofInt 1 := ⟨_, rfl⟩
                    refine lv_iinc (v := v360122) (lv' := [(3, .int v360122), (5, .ref (w (21 + (5 * (nI k360014).toNatClampNeg + xn.toNatClampNeg)))), (4, .int (nI k360014)), (0, .ref (w 0)), (1, .int xn), (2, .int xk)]) hx hb dX7_crash_186 hl (k := 2) rfl ev360122.symm (by decide) rfl (fun ls hl => ?_)
                    obtain ⟨v360123, ev360123⟩ : ∃ y : Int32, y = (nI k360014) + Int32.ofInt 1 := ⟨_, rfl⟩
                    refine lv_iinc (v := v360123) (lv' := [(4, .int v360123), (3, .int v360122), (5, .ref (w (21 + (5 * (nI k360014).toNatClampNeg + xn.toNatClampNeg)))), (0, .ref (w 0)), (1, .int xn), (2, .int xk)]) hx hb dX7_crash_189 hl (k := 2) rfl ev360123.symm (by decide) rfl (fun ls hl => ?_)
                    refine lv_goto (tgt := 33) hx hb dX7_crash_192 (by decide) ?_
                    obtain rfl : v360123 = nI (k360014 + 1) := ev360123.trans (nI_add k360014 1)
                    have hX1 : oC1 (oC5 (sg360013, 0) xn xk k360014).1 (5 * k360014 + xn.toNatClampNeg) xk = sg360055 := by
                      have hv : v360044 = (if ((oC5 (sg360013, 0) xn xk k360014).1.2.1 (5 * k360014 + xn.toNatClampNeg) 4).toInt64 + xk.toInt64 < ((oC5 (sg360013, 0) xn xk k360014).1.2.1 (5 * k360014 + xn.toNatClampNeg) 2).toInt64 then ((oC5 (sg360013, 0) xn xk k360014).1.2.1 (5 * k360014 + xn.toNatClampNeg) 4).toInt64 + xk.toInt64 else ((oC5 (sg360013, 0) xn xk k360014).1.2.1 (5 * k360014 + xn.toNatClampNeg) 2).toInt64).toInt32 := by simp only [ev360044, sx360043, sx360041, hkc360014]
                      rw [oC1, ← hv, esg360055, ez360052, sx360049, sx360051, esg360047, sG_o (f := 2) (g := 3) (by decide), sG_s, imn, hkc360014] <;> rfl
                    have hX2 : oC2 sg360055 k360014 xn = sg360104 := by rw [oC2, if_pos (by have k9 := c360060; simp only [sx360059, hkc360014] at k9; exact k9), esg360104, hkc360014]
                    have hX3 : oC3 sg360104 k360014 xn = sg360104 := by rw [oC3, if_pos (by have k9 := c360111; simp only [ev360110, sx360107, ev360109, ev360108, hkc360014] at k9; exact k9)]
                    have hX : (if ((oC5 (sg360013, 0) xn xk k360014).1.1 3 k360014 >>> (xn &&& 31)) &&& 1 = 1 then oRi (oC3 (oC2 (oC1 (oC5 (sg360013, 0) xn xk k360014).1 (5 * k360014 + xn.toNatClampNeg) xk) k360014 xn) k360014 xn) k360014 else (oC5 (sg360013, 0) xn xk k360014).1) = sg360116 := by rw [if_pos (by have k9 := c360027; simp only [ev360026, ev360025, sx360024, hkc360014] at k9; exact k9), hX1, hX2, hX3, esg360116, hkc360014]
                    have e9 : oC5 (sg360013, 0) xn xk (k360014 + 1) = (sg360116, v360122) := by
                      show oC4 (oC5 (sg360013, 0) xn xk k360014) k360014 xn xk = _
                      rw [oC4, if_neg (by have k9 := c360021; simp only [sx360020, hkc360014] at k9; exact k9), hX]
                      rw [if_neg (by have k9 := c360120; simp only [sx360119, hkc360014] at k9; exact k9), ← hiv360014, ev360122]
                      rfl
                    exact ih360014 (k360014 + 1) _ _ _ _ _ _ (by omega) (by rw [e9]) hR (hML.mono (by omega)) hMD hMU (by rw [e9]; exact hMR) hP hD hS (lv_sub hl [0, 1, 3, 4, 5] rfl)
                · have kc360111 : ¬ (v360110.toInt = 0) := by have h9 := c360111; rw [xk_eq, xk_0] at h9; exact h9
                  refine lv_aload_n hx hb dX7_crash_155 rfl (lv_at hl 3 rfl) ?_
                  obtain ⟨j360124, hj360124⟩ := wG_7 (cy := cy) (N := N) (T := T) (I := I360054) (Q := Q) (J := J360103) (hM.at 0 (by decide)) (hM.k 0 (by decide) rfl)
                  refine va_get (D := (dC, dI)) (ci := 7) (v := .ref (T (w 0) 6)) (C := RX7) (T := TX7) (N := 18) hx hb hts hi7 hown hK hP j360124 hj360124 rfl 6 (by decide) (hts (.fieldLink RX7 31 "TallyLogsModel" "step" "[I") (by decide +kernel)) (fun _ h9 => h9) rfl dX7_crash_156 ?_
                  refine W.eq (g2 := F0 m 159 ls [.ref (w 7)]) (by rw [hM.t 6 (by decide)]) ?_
                  refine lv_iload hx hb dX7_crash_159 (lv_at hl 1 rfl) ?_
                  refine lv_dup2_11 hx hb dX7_crash_161 rfl rfl ?_
                  obtain ⟨j360125, hj360125⟩ := wG_20 (cy := cy) (N := N) (T := T) (I := I360054) (Q := Q) (J := J360103) (hM.at 7 (by decide)) (hM.k 7 (by decide) rfl)
                  refine va_iald hx hb hK hP j360125 1 hj360125 rfl (hM.inN (n := 4) 7 (by decide) rfl rfl hki360014) dX7_crash_162 ?_
                  refine lv_topi (fun x360126 ex360126 => ?_)
                  have sx360126 : x360126 = sg360104.1 7 ((nI k360014).toNatClampNeg) := ex360126.trans (hMR.a (k := 7) (by decide) (by decide) (show _ < 4 from vp_lt (n := 4) hki360014))
                  refine lv_iconst (v := 1) hx hb dX7_crash_163 (by decide) ?_
                  refine lv_iload_n hx hb dX7_crash_164 rfl (lv_at hl 4 rfl) ?_
                  refine lv_ishl hx hb dX7_crash_165 ?_
                  refine lv_topi (fun v360127 ev360127 => ?_)
                  refine lv_iconst (v := (-1)) hx hb dX7_crash_166 (by decide) ?_
                  refine lv_ixor hx hb dX7_crash_167 ?_
                  refine lv_topi (fun v360128 ev360128 => ?_)
                  refine lv_iand hx hb dX7_crash_168 ?_
                  refine lv_topi (fun v360129 ev360129 => ?_)
                  obtain ⟨j360130, hj360130⟩ := wG_20 (cy := cy) (N := N) (T := T) (I := I360054) (Q := Q) (J := J360103) (hM.at 7 (by decide)) (hM.k 7 (by decide) rfl)
                  have hDo := hD
                  refine va_iast (x := v360129) hx hb hK hP hD hS j360130 1 hj360130 rfl (hM.inN (n := 4) 7 (by decide) rfl rfl hki360014) dX7_crash_169 (fun H locs hP hD hS => ?_)
                  have hP := Eq.mp (congrArg (fun w => va_P (dC, dI) vwCl w H) (wS_20 hDo (hM.at 7 (by decide)) (hM.k 7 (by decide) rfl) hj360130)) hP
                  obtain ⟨J360131, eJ360131⟩ : ∃ z, z = va_up J360103 (w 7) (upd (J360103 (w 7)) (nI k360014).toNatClampNeg v360129) := ⟨_, rfl⟩
                  rw [← eJ360131] at hP
                  have hR : RM w [] I360012 J I360054 J360131 := by rw [eJ360131]; exact hR.pj hM (by decide) (by decide)
                  have hMD : MD w J360131 := by
                    rw [eJ360131, ev360129, ex360126, ev360128, ev360127]
                    exact hMD.p7 hM ((hMD _ (vp_lt (n := 4) hki360014)).clr hup360004.1 (by rw [eJ360103, va_up_self]; simp only [upd, if_true]; intro q; have h9 := vp_in_iff.mp hup360004.1; rw [← q] at h9; exact absurd h9.1 (by decide)))
                  have hD : va_D A (va_pl L (wF cy K N T I360054 Q J360131)) := pD hDo
                  obtain ⟨sg360132, esg360132⟩ : ∃ z, z = sA sg360104 7 ((nI k360014).toNatClampNeg) v360129 := ⟨_, rfl⟩
                  have hMR : MR w I360054 J360131 sg360132 := by rw [eJ360131, esg360132]; exact hMR.wa hM (by decide) (by decide)
                  refine lv_aload_n hx hb dX7_crash_170 rfl (lv_at hl 3 rfl) ?_
                  refine lv_iload hx hb dX7_crash_171 (lv_at hl 1 rfl) ?_
                  obtain ⟨j360133, hj360133⟩ := wG_7 (cy := cy) (N := N) (T := T) (I := I360054) (Q := Q) (J := J360131) (hM.at 0 (by decide)) (hM.k 0 (by decide) rfl)
                  have hFc := pfree hD hS hA
                  refine va_callv (va_runV (As := [.int (nI k360014)]) (rest := []) ⟨hx, hb, hml, hown, hts⟩ (f_X7_rise l dC dI cy w L K N T Q I360054 J360131 H.size (nI k360014) sg360132 hM hki360014 (hMD _ (vp_lt (n := 4) hki360014)) hMR) (cwV 1 hts gX7_crash_X7_rise rfl rfl rfl (by decide +kernel) ⟨Nat.le_of_ble_eq_true rfl, Nat.le_of_ble_eq_true rfl⟩) ⟨mw_blind, va_recv hK hP (ci := 7) (q0 := j360133) rfl hj360133, fun U hU hW => ⟨rfl, mw_pre hP hK hD hU hW⟩⟩ rfl rfl hl.1 rfl (lv_room (Nat.le_of_ble_eq_true rfl)) dX7_crash_173 ⟨Nat.le_of_ble_eq_true rfl, Nat.le_of_ble_eq_true rfl⟩) hS (fun q _ h => hFc q h) hFc (fun d9 t H1 locs ht hvm hw hB hz1 hk1 hS => ?_)
                  obtain ⟨I360134, J360134⟩ := d9
                  obtain ⟨hP, hK1, hD1⟩ := hB
                  rw [ht] at hP
                  have hD := hD1.weaken (fun _ _ _ h => hFc _ h)
                  generalize H1 = H at hP hS ⊢
                  have hP : va_P (dC, dI) vwCl (va_pl L (wF cy K N T I360134 Q J360134)) H := hP
                  have hD : va_D A (va_pl L (wF cy K N T I360134 Q J360134)) := hD
                  have hMRn := hw.1
                  have hw := hw.2
                  have hw360136 : RZ w I360054 J360131 I360134 J360134 (nI k360014).toNatClampNeg := hw
                  have hR : RM w [] I360012 J I360134 J360134 := hR.rz hM (vp_lt (n := 4) hki360014) hw360136
                  have hMD : MD w J360134 := hMD.rz hw360136
                  have hMU : MU w I360134 := hMU.rz hM (vp_lt (n := 4) hki360014) hw360136
                  have hML : ML w E I360134 := hML.rz hM (vp_lt (n := 4) hki360014) hw360136
                  obtain ⟨sg360137, esg360137⟩ : ∃ z, z = oRi sg360132 ((nI k360014).toNatClampNeg) := ⟨_, rfl⟩
                  have hMR : MR w I360134 J360134 sg360137 := by rw [esg360137]; exact hMRn
                  refine lv_aload_n hx hb dX7_crash_176 rfl (lv_at hl 3 rfl) ?_
                  obtain ⟨j360138, hj360138⟩ := wG_7 (cy := cy) (N := N) (T := T) (I := I360134) (Q := Q) (J := J360134) (hM.at 0 (by decide)) (hM.k 0 (by decide) rfl)
                  refine va_get (D := (dC, dI)) (ci := 7) (v := .ref (T (w 0) 3)) (C := RX7) (T := TX7) (N := 18) hx hb hts hi7 hown hK hP j360138 hj360138 rfl 3 (by decide) (hts (.fieldLink RX7 22 "TallyLogsModel" "leader" "[I") (by decide +kernel)) (fun _ h9 => h9) rfl dX7_crash_177 ?_
                  refine W.eq (g2 := F0 m 180 ls [.ref (w 4)]) (by rw [hM.t 3 (by decide)]) ?_
                  refine lv_iload hx hb dX7_crash_180 (lv_at hl 1 rfl) ?_
                  obtain ⟨j360139, hj360139⟩ := wG_20 (cy := cy) (N := N) (T := T) (I := I360134) (Q := Q) (J := J360134) (hM.at 4 (by decide)) (hM.k 4 (by decide) rfl)
                  refine va_iald hx hb hK hP j360139 1 hj360139 rfl (hM.inN (n := 4) 4 (by decide) rfl rfl hki360014) dX7_crash_182 ?_
                  refine lv_topi (fun x360140 ex360140 => ?_)
                  have sx360140 : x360140 = sg360137.1 4 ((nI k360014).toNatClampNeg) := ex360140.trans (hMR.a (k := 4) (by decide) (by decide) (show _ < 4 from vp_lt (n := 4) hki360014))
                  refine lv_if_ge (tgt := 189) hx hb dX7_crash_183 (by decide) (fun c360141 => ?_) (fun c360141 => ?_)
                  · have kc360141 : 0 ≤ x360140.toInt := by have h9 := c360141; rw [xk_le, xk_0] at h9; exact h9
                    obtain ⟨v360142, ev360142⟩ : ∃ y : Int32, y = (nI k360014) + Int32.ofInt 1 := ⟨_, rfl⟩
                    refine lv_iinc (v := v360142) (lv' := [(4, .int v360142), (5, .ref (w (21 + (5 * (nI k360014).toNatClampNeg + xn.toNatClampNeg)))), (3, .int y360015), (0, .ref (w 0)), (1, .int xn), (2, .int xk)]) hx hb dX7_crash_189 hl (k := 1) rfl ev360142.symm (by decide) rfl (fun ls hl => ?_)
                    refine lv_goto (tgt := 33) hx hb dX7_crash_192 (by decide) ?_
                    obtain rfl : v360142 = nI (k360014 + 1) := ev360142.trans (nI_add k360014 1)
                    have hX1 : oC1 (oC5 (sg360013, 0) xn xk k360014).1 (5 * k360014 + xn.toNatClampNeg) xk = sg360055 := by
                      have hv : v360044 = (if ((oC5 (sg360013, 0) xn xk k360014).1.2.1 (5 * k360014 + xn.toNatClampNeg) 4).toInt64 + xk.toInt64 < ((oC5 (sg360013, 0) xn xk k360014).1.2.1 (5 * k360014 + xn.toNatClampNeg) 2).toInt64 then ((oC5 (sg360013, 0) xn xk k360014).1.2.1 (5 * k360014 + xn.toNatClampNeg) 4).toInt64 + xk.toInt64 else ((oC5 (sg360013, 0) xn xk k360014).1.2.1 (5 * k360014 + xn.toNatClampNeg) 2).toInt64).toInt32 := by simp only [ev360044, sx360043, sx360041, hkc360014]
                      rw [oC1, ← hv, esg360055, ez360052, sx360049, sx360051, esg360047, sG_o (f := 2) (g := 3) (by decide), sG_s, imn, hkc360014] <;> rfl
                    have hX2 : oC2 sg360055 k360014 xn = sg360104 := by rw [oC2, if_pos (by have k9 := c360060; simp only [sx360059, hkc360014] at k9; exact k9), esg360104, hkc360014]
                    have hX3 : oC3 sg360104 k360014 xn = sg360132 := by rw [oC3, if_neg (by have k9 := c360111; simp only [ev360110, sx360107, ev360109, ev360108, hkc360014] at k9; exact k9), esg360132]; simp only [ev360129, sx360126, ev360128, ev360127, hkc360014]
                    have hX : (if ((oC5 (sg360013, 0) xn xk k360014).1.1 3 k360014 >>> (xn &&& 31)) &&& 1 = 1 then oRi (oC3 (oC2 (oC1 (oC5 (sg360013, 0) xn xk k360014).1 (5 * k360014 + xn.toNatClampNeg) xk) k360014 xn) k360014 xn) k360014 else (oC5 (sg360013, 0) xn xk k360014).1) = sg360137 := by rw [if_pos (by have k9 := c360027; simp only [ev360026, ev360025, sx360024, hkc360014] at k9; exact k9), hX1, hX2, hX3, esg360137, hkc360014]
                    have e9 : oC5 (sg360013, 0) xn xk (k360014 + 1) = (sg360137, y360015) := by
                      show oC4 (oC5 (sg360013, 0) xn xk k360014) k360014 xn xk = _
                      rw [oC4, if_neg (by have k9 := c360021; simp only [sx360020, hkc360014] at k9; exact k9), hX]
                      rw [if_pos (by have k9 := c360141; simp only [sx360140, hkc360014] at k9; exact k9), ← hiv360014]
                    exact ih360014 (k360014 + 1) _ _ _ _ _ _ (by omega) (by rw [e9]) hR (hML.mono (by omega)) hMD hMU (by rw [e9]; exact hMR) hP hD hS (lv_sub hl [0, 2, 3, 4, 5] rfl)
                  · have kc360141 : ¬ (0 ≤ x360140.toInt) := by have h9 := c360141; rw [xk_le, xk_0] at h9; exact h9
                    obtain ⟨v360143, ev360143⟩ : ∃ y : Int32, y = y360015 + Int32.ofInt 1 := ⟨_, rfl⟩
                    refine lv_iinc (v := v360143) (lv' := [(3, .int v360143), (5, .ref (w (21 + (5 * (nI k360014).toNatClampNeg + xn.toNatClampNeg)))), (4, .int (nI k360014)), (0, .ref (w 0)), (1, .int xn), (2, .int xk)]) hx hb dX7_crash_186 hl (k := 2) rfl ev360143.symm (by decide) rfl (fun ls hl => ?_)
                    obtain ⟨v360144, ev360144⟩ : ∃ y : Int32, y = (nI k360014) + Int32.ofInt 1 := ⟨_, rfl⟩
                    refine lv_iinc (v := v360144) (lv' := [(4, .int v360144), (3, .int v360143), (5, .ref (w (21 + (5 * (nI k360014).toNatClampNeg + xn.toNatClampNeg)))), (0, .ref (w 0)), (1, .int xn), (2, .int xk)]) hx hb dX7_crash_189 hl (k := 2) rfl ev360144.symm (by decide) rfl (fun ls hl => ?_)
                    refine lv_goto (tgt := 33) hx hb dX7_crash_192 (by decide) ?_
                    obtain rfl : v360144 = nI (k360014 + 1) := ev360144.trans (nI_add k360014 1)
                    have hX1 : oC1 (oC5 (sg360013, 0) xn xk k360014).1 (5 * k360014 + xn.toNatClampNeg) xk = sg360055 := by
                      have hv : v360044 = (if ((oC5 (sg360013, 0) xn xk k360014).1.2.1 (5 * k360014 + xn.toNatClampNeg) 4).toInt64 + xk.toInt64 < ((oC5 (sg360013, 0) xn xk k360014).1.2.1 (5 * k360014 + xn.toNatClampNeg) 2).toInt64 then ((oC5 (sg360013, 0) xn xk k360014).1.2.1 (5 * k360014 + xn.toNatClampNeg) 4).toInt64 + xk.toInt64 else ((oC5 (sg360013, 0) xn xk k360014).1.2.1 (5 * k360014 + xn.toNatClampNeg) 2).toInt64).toInt32 := by simp only [ev360044, sx360043, sx360041, hkc360014]
                      rw [oC1, ← hv, esg360055, ez360052, sx360049, sx360051, esg360047, sG_o (f := 2) (g := 3) (by decide), sG_s, imn, hkc360014] <;> rfl
                    have hX2 : oC2 sg360055 k360014 xn = sg360104 := by rw [oC2, if_pos (by have k9 := c360060; simp only [sx360059, hkc360014] at k9; exact k9), esg360104, hkc360014]
                    have hX3 : oC3 sg360104 k360014 xn = sg360132 := by rw [oC3, if_neg (by have k9 := c360111; simp only [ev360110, sx360107, ev360109, ev360108, hkc360014] at k9; exact k9), esg360132]; simp only [ev360129, sx360126, ev360128, ev360127, hkc360014]
                    have hX : (if ((oC5 (sg360013, 0) xn xk k360014).1.1 3 k360014 >>> (xn &&& 31)) &&& 1 = 1 then oRi (oC3 (oC2 (oC1 (oC5 (sg360013, 0) xn xk k360014).1 (5 * k360014 + xn.toNatClampNeg) xk) k360014 xn) k360014 xn) k360014 else (oC5 (sg360013, 0) xn xk k360014).1) = sg360137 := by rw [if_pos (by have k9 := c360027; simp only [ev360026, ev360025, sx360024, hkc360014] at k9; exact k9), hX1, hX2, hX3, esg360137, hkc360014]
                    have e9 : oC5 (sg360013, 0) xn xk (k360014 + 1) = (sg360137, v360143) := by
                      show oC4 (oC5 (sg360013, 0) xn xk k360014) k360014 xn xk = _
                      rw [oC4, if_neg (by have k9 := c360021; simp only [sx360020, hkc360014] at k9; exact k9), hX]
                      rw [if_neg (by have k9 := c360141; simp only [sx360140, hkc360014] at k9; exact k9), ← hiv360014, ev360143]
                      rfl
                    exact ih360014 (k360014 + 1) _ _ _ _ _ _ (by omega) (by rw [e9]) hR (hML.mono (by omega)) hMD hMU (by rw [e9]; exact hMR) hP hD hS (lv_sub hl [0, 1, 3, 4, 5] rfl)
          · have kc360021 : x360020.toInt = 0 := by have h9 := c360021; rw [xk_eq, xk_0] at h9; exact h9
            refine lv_goto (tgt := 189) hx hb dX7_crash_49 (by decide) ?_
            obtain ⟨v360145, ev360145⟩ : ∃ y : Int32, y = (nI k360014) + Int32.ofInt 1 := ⟨_, rfl⟩
            refine lv_iinc (v := v360145) (lv' := [(4, .int v360145), (3, .int y360015), (0, .ref (w 0)), (1, .int xn), (2, .int xk)]) hx hb dX7_crash_189 hl (k := 0) rfl ev360145.symm (by decide) rfl (fun ls hl => ?_)
            refine lv_goto (tgt := 33) hx hb dX7_crash_192 (by decide) ?_
            obtain rfl : v360145 = nI (k360014 + 1) := ev360145.trans (nI_add k360014 1)
            have e9 : oC5 (sg360013, 0) xn xk (k360014 + 1) = ((oC5 (sg360013, 0) xn xk k360014).1, y360015) := by
              show oC4 (oC5 (sg360013, 0) xn xk k360014) k360014 xn xk = _
              rw [oC4, if_pos (by have k9 := c360021; simp only [sx360020, hkc360014] at k9; exact k9)]
              exact Prod.ext rfl hiv360014.symm
            exact ih360014 (k360014 + 1) _ _ _ _ _ _ (by omega) (by rw [e9]) hR (hML.mono (by omega)) hMD hMU (by rw [e9]; exact hMR) hP hD hS (lv_sub hl [0, 1, 2, 3, 4] rfl)
      exact hLP360014 4 0 _ _ _ _ _ _ rfl (rfl) hR (hML.mono (by omega)) hMD hMU (hMR) hP hD hS (lv_sub hl [0, 1, 2, 3, 4] rfl)
    · have kc360005 : ¬ (0 ≤ xk.toInt) := by have h9 := c360005; rw [xk_le, xk_0] at h9; exact h9
      refine lv_iconst (v := (-1)) hx hb dX7_crash_12 (by decide) ?_
      exact W.iret (v := (-1)) hx hb hr (fun t ht hW => ⟨⟨(-1), (I, J), rfl, ⟨⟨hML.mono (by omega), hMD, hMU⟩, by have e9 : qCr σ xn xk = (σ, (-1)) := (by rw [qCr, if_neg (by have k9 := c360003; simp only [hir360001] at k9; exact k9), if_pos (by have k9 := c360005; rw [xk_le] at k9; rw [xk_lt]; omega)]); show MR w I J _; rw [e9]; exact hMR, by have e9 : qCr σ xn xk = (σ, (-1)) := (by rw [qCr, if_neg (by have k9 := c360003; simp only [hir360001] at k9; exact k9), if_pos (by have k9 := c360005; rw [xk_le] at k9; rw [xk_lt]; omega)]); show _ = _; rw [e9]⟩, by rw [ht]; exact hP, va_K.moved hW.alike hK, hD⟩, hS.F ht⟩) hS.2.2 dX7_crash_13
