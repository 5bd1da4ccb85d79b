set_option maxHeartbeats 4000000 in
set_option maxRecDepth 100000 in
/-- tick -/
theorem c_X7_tick (l : Launch) (dC : Nat → ClassId) (dI : Nat → Nat → Nat) (cy : Nat → ClassId) (w : Nat → Nat) (L : List Nat) (K N : Nat → Nat) (T : Nat → Nat → Nat) (Q : Nat → Nat → Option Nat) (I J : Nat → Nat → Int32) (sz : Nat) (E : Int) (xn : Int32) (hM : MS w L K N T Q) (hI : MI w E I J) (hE : E ≤ 1000) : Met l yX7_tick wsX7_tick ({ frames := 4, cells := 0, slots := 0, locals := 99 }) (va_Pc [.ref (w 0), .int xn] (mW dC dI cy L (wF cy K N T I Q J) sz)) (va_Qi (fun (r : Int32) (d : (Nat → Nat → Int32) × (Nat → Nat → Int32)) => MI w (E + 5) d.1 d.2 ∧ RM w [] I J d.1 d.2) (fun (d : (Nat → Nat → Int32) × (Nat → Nat → Int32)) t => va_P (dC, dI) vwCl (va_pl L (wF cy K N T d.1 Q d.2)) t.heap ∧ va_K (dC, dI) vwCl (mTy cy) t ∧ va_D (va_A (va_pl L (wF cy K N T I Q J)) sz) (va_pl L (wF cy K N T d.1 Q d.2))) (va_A (va_pl L (wF cy K N T I Q J)) sz)) 0 0 (va_A (va_pl L (wF cy K N T I Q J)) sz) := by
  refine Met.ofW (cc := cX7_tick) (maxL := 5) (ret := (some .int)) (by decide) rfl ?_
  intro p e s m args below meth c s₁ B hml hv
  obtain ⟨rfl, hsz, ⟨hP, hK⟩, hD0⟩ := hv
  have hx := B.exec
  have hb := B.bytes
  have hr := B.returns
  have hts := atoms_spec (ws := wsX7_tick) B.pre
  have hown : s.vm.findClass RX7 = some m.cls := findClass_of_methodNamed B.named
  have hlocks := B.notSynchronized
  have hi7 : ∀ w ∈ wsX70, w ∈ wsX7_tick := by decide +kernel
  have hi6 : ∀ w ∈ wsX60, w ∈ wsX7_tick := by decide +kernel
  have hl := lv_entry ([.ref (w 0), .int xn]) (n := 5) (Nat.le_of_ble_eq_true rfl)
  rw [lg_entry_eq]
  generalize (lg_sl ([.ref (w 0), .int xn]) ++ List.replicate (5 - (lg_sl ([.ref (w 0), .int xn])).length) Slot.unset).toArray = ls at hl ⊢
  have hl : lv_has ls 5 [(0, .ref (w 0)), (1, .int xn)] := hl
  subst hsz
  have hD := hD0.self (sz := s.heap.size)
  generalize hAe : va_A (va_pl L (wF cy K N T I Q J)) s.heap.size = A at hD ⊢
  have hA : ∀ q : Nat, s.heap.size ≤ q → A q := fun q h => by rw [← hAe]; exact Or.inr h
  have hS : va_S A s.heap s.heap [] := va_S.rf
  have hR : RM w [] I J I J := RM.rf
  obtain ⟨hML, hMD, hMU⟩ := hI
  refine lv_iload_n hx hb dX7_tick_0 rfl (lv_at hl 1 rfl) ?_
  refine lv_i2l (v := xn.toInt64) hx hb dX7_tick_1 rfl ?_
  refine lv_lconst (v := 1) hx hb dX7_tick_2 (by decide) ?_
  refine lv_ldc2 hx hb hown (hts (.constantLong RX7 178 50) (by decide +kernel)) dX7_tick_3 ?_
  refine vp_callSi (W.runS (As := [.long xn.toInt64, .long 1, .long 50]) (rest := []) ⟨hx, hb, hml, hown, hts⟩ (c_X7_in l xn.toInt64 1 50) (va_cwS 3 hts gX7_tick_X7_in rfl rfl rfl (by decide +kernel) ⟨Nat.le_of_ble_eq_true rfl, Nat.le_of_ble_eq_true rfl⟩) preEq rfl rfl hl.1 rfl (lv_room (Nat.le_of_ble_eq_true rfl)) dX7_tick_6 ⟨Nat.le_of_ble_eq_true rfl, Nat.le_of_ble_eq_true rfl⟩) (fun r935 hr935 => ?_)
  subst hr935
  refine lv_if_ne (tgt := 14) hx hb dX7_tick_9 (by decide) (fun c936 => ?_) (fun c936 => ?_)
  · refine lv_aload_n hx hb dX7_tick_14 rfl (lv_at hl 0 rfl) ?_
    refine lv_dup hx hb dX7_tick_15 rfl ?_
    obtain ⟨j937, hj937⟩ := wG_7 (cy := cy) (N := N) (T := T) (I := I) (Q := Q) (J := J) (hM.at 0 (by decide)) (hM.k 0 (by decide) rfl)
    refine va_get (D := (dC, dI)) (ci := 7) (v := .int (I (w 0) 17)) (C := RX7) (T := TX7) (N := 18) hx hb hts hi7 hown hK hP j937 hj937 rfl 17 (by decide) (hts (.fieldLink RX7 119 "TallyLogsModel" "now" "I") (by decide +kernel)) (fun _ h9 => h9) rfl dX7_tick_16 ?_
    refine lv_topi (fun x938 ex938 => ?_)
    have tx938 : x938.toInt = (I (w 0) 17).toInt := congrArg Int32.toInt ex938
    refine lv_iload_n hx hb dX7_tick_19 rfl (lv_at hl 1 rfl) ?_
    refine lv_iadd hx hb dX7_tick_20 ?_
    refine lv_topi (fun v939 ev939 => ?_)
    obtain ⟨j940, hj940⟩ := wG_7 (cy := cy) (N := N) (T := T) (I := I) (Q := Q) (J := J) (hM.at 0 (by decide)) (hM.k 0 (by decide) rfl)
    have hDo := hD
    refine va_put (D := (dC, dI)) (ci := 7) (v := .int v939) (ty := .int) (C := RX7) (T := TX7) (N := 18) hx hb hts hi7 tyX7 tyX7_ok nmX7 hown hK hP hD hS j940 hj940 rfl 17 (by decide) (hts (.fieldLink RX7 119 "TallyLogsModel" "now" "I") (by decide +kernel)) (fun _ h9 => h9) rfl (by decide +kernel) rfl rfl (Nat.le_of_ble_eq_true rfl) dX7_tick_21 (fun H locs hP hD hS => ?_)
    have hP := Eq.mp (congrArg (fun w => va_P (dC, dI) vwCl w H) (wP_7_17 (x := v939) hDo (hM.at 0 (by decide)) (hM.k 0 (by decide) rfl) hj940)) hP
    obtain ⟨I941, eI941⟩ : ∃ z, z = p2 I (w 0) 17 v939 := ⟨_, rfl⟩
    rw [← eI941] at hP
    have hD : va_D A (va_pl L (wF cy K N T I941 Q J)) := pD hDo
    have hR : RM w [] I J I941 J := by rw [eI941]; exact hR.pn
    have hMU : MU w I941 := by rw [eI941]; exact hMU.pn
    have hML : ML w E I941 := by rw [eI941]; exact hML.pm hM
    refine lv_iconst (v := 0) hx hb dX7_tick_24 (by decide) ?_
    refine lv_istore_n (lv' := [(2, .int 0), (0, .ref (w 0)), (1, .int xn)]) hx hb dX7_tick_25 rfl hl (by decide) rfl (fun ls hl => ?_)
    refine lv_iconst (v := 0) hx hb dX7_tick_26 (by decide) ?_
    refine lv_istore_n (lv' := [(3, .int 0), (2, .int 0), (0, .ref (w 0)), (1, .int xn)]) hx hb dX7_tick_27 rfl hl (by decide) rfl (fun ls hl => ?_)
    refine wq_gen (fun Qz hQz => ?_)
    have hLP942 : ∀ (n : Nat) (y943 y944 : Int32) (Ia942 Ja942 : Nat → Nat → Int32) (H : Heap) (locs : List Loc) (ls : Array Slot), (4 - y943.toInt).toNat < n → 0 ≤ y943.toInt → (True) → RM w [] I J Ia942 Ja942 → ML w E Ia942 → MD w Ja942 → MU w Ia942 →  va_P (dC, dI) vwCl (va_pl L (wF cy K N T Ia942 Q Ja942)) H → va_D A (va_pl L (wF cy K N T Ia942 Q Ja942)) → va_S A s.heap H locs → lv_has ls 5 [(3, .int y943), (2, .int y944), (0, .ref (w 0)), (1, .int xn)] → W p l e (headSpec wsX7_tick ({ frames := 4, cells := 0, slots := 0, locals := 99 })).room s m ([.ref (w 0), .int xn] : List Value).toArray below meth c H locs 0 0 Qz (F0 m 28 ls []) := by
      intro n
      induction n with
      | zero => intro y943 y944 Ia942 Ja942 H locs ls hms; exact absurd hms (Nat.not_lt_zero _)
      | succ n ih942 =>
        intro y943 y944 Ia942 Ja942 H locs ls hms hnn942 hiv942 hR hML hMD hMU hP hD hS hl
        refine lv_iload_n hx hb dX7_tick_28 rfl (lv_at hl 0 rfl) ?_
        refine lv_iconst (v := 4) hx hb dX7_tick_29 (by decide) ?_
        refine lv_icmp_ge (tgt := 147) hx hb dX7_tick_30 (by decide) (fun c945 => ?_) (fun c945 => ?_)
        · have kc945 : 4 ≤ y943.toInt := by have h9 := c945; rw [xk_le, xk_4] at h9; exact h9
          refine lv_iload_n hx hb dX7_tick_147 rfl (lv_at hl 1 rfl) ?_
          rw [hQz]
          exact W.iret (v := y944) hx hb hr (fun t ht hW => ⟨⟨y944, (Ia942, Ja942), rfl, ⟨⟨hML.mono (by omega), hMD, hMU⟩, hR⟩, by rw [ht]; exact hP, va_K.moved hW.alike hK, hD⟩, hS.F ht⟩) hS.2.2 dX7_tick_148
        · have kc945 : ¬ (4 ≤ y943.toInt) := by have h9 := c945; rw [xk_le, xk_4] at h9; exact h9
          refine lv_aload_n hx hb dX7_tick_33 rfl (lv_at hl 2 rfl) ?_
          obtain ⟨j946, hj946⟩ := wG_7 (cy := cy) (N := N) (T := T) (I := Ia942) (Q := Q) (J := Ja942) (hM.at 0 (by decide)) (hM.k 0 (by decide) rfl)
          refine va_get (D := (dC, dI)) (ci := 7) (v := .ref (T (w 0) 1)) (C := RX7) (T := TX7) (N := 18) hx hb hts hi7 hown hK hP j946 hj946 rfl 1 (by decide) (hts (.fieldLink RX7 14 "TallyLogsModel" "there" "[Z") (by decide +kernel)) (fun _ h9 => h9) rfl dX7_tick_34 ?_
          refine W.eq (g2 := F0 m 37 ls [.ref (w 2)]) (by rw [hM.t 1 (by decide)]) ?_
          refine lv_iload_n hx hb dX7_tick_37 rfl (lv_at hl 0 rfl) ?_
          obtain ⟨j947, hj947⟩ := wG_21 (cy := cy) (N := N) (T := T) (I := Ia942) (Q := Q) (J := Ja942) (hM.at 2 (by decide)) (hM.k 2 (by decide) rfl)
          refine va_zald hx hb hK hP j947 0 hj947 rfl (xin_of hnn942 (by have kc := c945; simp only [xk_lt, xk_le, xk_0, xk_1, xk_2, xk_3, xk_4, xk_5, xk_6, xk_7, xk_8, xk_50] at kc; omega)) dX7_tick_38 ?_
          refine lv_topi (fun x948 ex948 => ?_)
          refine lv_if_eq (tgt := 141) hx hb dX7_tick_39 (by decide) (fun c949 => ?_) (fun c949 => ?_)
          · have kc949 : x948.toInt = 0 := by have h9 := c949; rw [xk_eq, xk_0] at h9; exact h9
            obtain ⟨v950, ev950⟩ : ∃ y : Int32, y = y943 + Int32.ofInt 1 := ⟨_, rfl⟩
            refine lv_iinc (v := v950) (lv' := [(3, .int v950), (2, .int y944), (0, .ref (w 0)), (1, .int xn)]) hx hb dX7_tick_141 hl (k := 0) rfl ev950.symm (by decide) rfl (fun ls hl => ?_)
            refine lv_goto (tgt := 28) hx hb dX7_tick_144 (by decide) ?_
            have tv950 : v950.toInt = y943.toInt + 1 := by rw [ev950, show y943 + Int32.ofInt 1 = y943 + 1 from rfl]; exact xinc (y := (4 : Int32)) (by rw [xk_lt, xk_4]; omega)
            exact ih942 _ _ _ _ _ _ _ (by omega) (by omega) (trivial) hR (hML.mono (by omega)) hMD hMU hP hD hS (lv_sub hl [0, 1, 2, 3] rfl)
          · have kc949 : ¬ (x948.toInt = 0) := by have h9 := c949; rw [xk_eq, xk_0] at h9; exact h9
            refine lv_aload_n hx hb dX7_tick_42 rfl (lv_at hl 2 rfl) ?_
            refine lv_iload_n hx hb dX7_tick_43 rfl (lv_at hl 0 rfl) ?_
            obtain ⟨j952, hj952⟩ := wG_7 (cy := cy) (N := N) (T := T) (I := Ia942) (Q := Q) (J := Ja942) (hM.at 0 (by decide)) (hM.k 0 (by decide) rfl)
            refine va_csq (W.runV (As := [.int y943]) (rest := []) ⟨hx, hb, hml, hown, hts⟩ (c_X7_own l dC dI cy w L K N T Q Ia942 Ja942 y943 hM (xin_of hnn942 (by have kc := c945; simp only [xk_lt, xk_le, xk_0, xk_1, xk_2, xk_3, xk_4, xk_5, xk_6, xk_7, xk_8, xk_50] at kc; omega))) (cwV 1 hts gX7_tick_X7_own rfl rfl rfl (by decide +kernel) ⟨Nat.le_of_ble_eq_true rfl, Nat.le_of_ble_eq_true rfl⟩) ⟨mb_blind, va_recv hK hP (ci := 7) (q0 := j952) rfl hj952, fun U hU hW => ⟨rfl, mb_pre hP hK hU hW⟩⟩ rfl rfl hl.1 rfl (lv_room (Nat.le_of_ble_eq_true rfl)) dX7_tick_44 ⟨Nat.le_of_ble_eq_true rfl, Nat.le_of_ble_eq_true rfl⟩) (fun r951 hr951 => ?_)
            subst hr951
            rcases sp_ow_cs w (Ia942 (w 0) 16) (Ja942 (w 4) y943.toNatClampNeg) y943.toNatClampNeg with hon953 | ⟨n953, hnn953, eln953, hubn953, hon953⟩
            · refine W.eq (g2 := F0 m 47 ls [.null]) (by rw [hon953]; rfl) ?_
              refine lv_ifnonnullN hx hb dX7_tick_47 ?_
              refine lv_goto (tgt := 141) hx hb dX7_tick_50 (by decide) ?_
              obtain ⟨v954, ev954⟩ : ∃ y : Int32, y = y943 + Int32.ofInt 1 := ⟨_, rfl⟩
              refine lv_iinc (v := v954) (lv' := [(3, .int v954), (2, .int y944), (0, .ref (w 0)), (1, .int xn)]) hx hb dX7_tick_141 hl (k := 0) rfl ev954.symm (by decide) rfl (fun ls hl => ?_)
              refine lv_goto (tgt := 28) hx hb dX7_tick_144 (by decide) ?_
              have tv954 : v954.toInt = y943.toInt + 1 := by rw [ev954, show y943 + Int32.ofInt 1 = y943 + 1 from rfl]; exact xinc (y := (4 : Int32)) (by rw [xk_lt, xk_4]; omega)
              exact ih942 _ _ _ _ _ _ _ (by omega) (by omega) (trivial) hR (hML.mono (by omega)) hMD hMU hP hD hS (lv_sub hl [0, 1, 2, 3] rfl)
            · have hjn953 : (5 * y943.toNatClampNeg + n953) < 20 := by have h1 := vp_lt (n := 4) (xin_of hnn942 (by have kc := c945; simp only [xk_lt, xk_le, xk_0, xk_1, xk_2, xk_3, xk_4, xk_5, xk_6, xk_7, xk_8, xk_50] at kc; omega)); omega
              refine W.eq (g2 := F0 m 47 ls [.ref (w (21 + (5 * y943.toNatClampNeg + n953)))]) (by rw [hon953]; rfl) ?_
              refine lv_ifnonnull (tgt := 53) hx hb dX7_tick_47 (by decide) ?_
              refine lv_iconst (v := 0) hx hb dX7_tick_53 (by decide) ?_
              refine lv_istore (lv' := [(4, .int 0), (3, .int y943), (2, .int y944), (0, .ref (w 0)), (1, .int xn)]) hx hb dX7_tick_54 hl (by decide) rfl (fun ls hl => ?_)
              have hLP955 : ∀ (n : Nat) (y956 y957 : Int32) (Ia955 Ja955 : Nat → Nat → Int32) (H : Heap) (locs : List Loc) (ls : Array Slot), (5 - y956.toInt).toNat < n → 0 ≤ y956.toInt → (Ja955 (w 4) y943.toNatClampNeg = nI n953) → RM w [] I J Ia955 Ja955 → ML w E Ia955 → MD w Ja955 → MU w Ia955 →  va_P (dC, dI) vwCl (va_pl L (wF cy K N T Ia955 Q Ja955)) H → va_D A (va_pl L (wF cy K N T Ia955 Q Ja955)) → va_S A s.heap H locs → lv_has ls 5 [(4, .int y956), (3, .int y943), (2, .int y957), (0, .ref (w 0)), (1, .int xn)] → W p l e (headSpec wsX7_tick ({ frames := 4, cells := 0, slots := 0, locals := 99 })).room s m ([.ref (w 0), .int xn] : List Value).toArray below meth c H locs 0 0 Qz (F0 m 56 ls []) := by
                intro n
                induction n with
                | zero => intro y956 y957 Ia955 Ja955 H locs ls hms; exact absurd hms (Nat.not_lt_zero _)
                | succ n ih955 =>
                  intro y956 y957 Ia955 Ja955 H locs ls hms hnn955 hiv955 hR hML hMD hMU hP hD hS hl
                  refine lv_iload hx hb dX7_tick_56 (lv_at hl 0 rfl) ?_
                  refine lv_iconst (v := 5) hx hb dX7_tick_58 (by decide) ?_
                  refine lv_icmp_ge (tgt := 136) hx hb dX7_tick_59 (by decide) (fun c958 => ?_) (fun c958 => ?_)
                  · have kc958 : 5 ≤ y956.toInt := by have h9 := c958; rw [xk_le, xk_5] at h9; exact h9
                    refine lv_aload_n hx hb dX7_tick_136 rfl (lv_at hl 3 rfl) ?_
                    refine lv_iload_n hx hb dX7_tick_137 rfl (lv_at hl 1 rfl) ?_
                    obtain ⟨j959, hj959⟩ := wG_7 (cy := cy) (N := N) (T := T) (I := Ia955) (Q := Q) (J := Ja955) (hM.at 0 (by decide)) (hM.k 0 (by decide) rfl)
                    have hFc := pfree hD hS hA
                    refine va_callv (va_runV (As := [.int y943]) (rest := []) ⟨hx, hb, hml, hown, hts⟩ (c_X7_rise l dC dI cy w L K N T Q Ia955 Ja955 H.size y943 hM (xin_of hnn942 (by have kc := c945; simp only [xk_lt, xk_le, xk_0, xk_1, xk_2, xk_3, xk_4, xk_5, xk_6, xk_7, xk_8, xk_50] at kc; omega)) (hMD _ (vp_lt (n := 4) (xin_of hnn942 (by have kc := c945; simp only [xk_lt, xk_le, xk_0, xk_1, xk_2, xk_3, xk_4, xk_5, xk_6, xk_7, xk_8, xk_50] at kc; omega))))) (cwV 1 hts gX7_tick_X7_rise rfl rfl rfl (by decide +kernel) ⟨Nat.le_of_ble_eq_true rfl, Nat.le_of_ble_eq_true rfl⟩) ⟨mw_blind, va_recv hK hP (ci := 7) (q0 := j959) rfl hj959, fun U hU hW => ⟨rfl, mw_pre hP hK hD hU hW⟩⟩ rfl rfl hl.1 rfl (lv_room (Nat.le_of_ble_eq_true rfl)) dX7_tick_138 ⟨Nat.le_of_ble_eq_true rfl, Nat.le_of_ble_eq_true rfl⟩) hS (fun q _ h => hFc q h) hFc (fun d9 t H1 locs ht hvm hw hB hz1 hk1 hS => ?_)
                    obtain ⟨I960, J960⟩ := d9
                    obtain ⟨hP, hK1, hD1⟩ := hB
                    rw [ht] at hP
                    have hD := hD1.weaken (fun _ _ _ h => hFc _ h)
                    generalize H1 = H at hP hS ⊢
                    have hP : va_P (dC, dI) vwCl (va_pl L (wF cy K N T I960 Q J960)) H := hP
                    have hD : va_D A (va_pl L (wF cy K N T I960 Q J960)) := hD
                    have hw962 : RZ w Ia955 Ja955 I960 J960 y943.toNatClampNeg := hw
                    have hR : RM w [] I J I960 J960 := hR.rz hM (vp_lt (n := 4) (xin_of hnn942 (by have kc := c945; simp only [xk_lt, xk_le, xk_0, xk_1, xk_2, xk_3, xk_4, xk_5, xk_6, xk_7, xk_8, xk_50] at kc; omega))) hw962
                    have hMD : MD w J960 := hMD.rz hw962
                    have hMU : MU w I960 := hMU.rz hM (vp_lt (n := 4) (xin_of hnn942 (by have kc := c945; simp only [xk_lt, xk_le, xk_0, xk_1, xk_2, xk_3, xk_4, xk_5, xk_6, xk_7, xk_8, xk_50] at kc; omega))) hw962
                    have hML : ML w E I960 := hML.rz hM (vp_lt (n := 4) (xin_of hnn942 (by have kc := c945; simp only [xk_lt, xk_le, xk_0, xk_1, xk_2, xk_3, xk_4, xk_5, xk_6, xk_7, xk_8, xk_50] at kc; omega))) hw962
                    obtain ⟨v963, ev963⟩ : ∃ y : Int32, y = y943 + Int32.ofInt 1 := ⟨_, rfl⟩
                    refine lv_iinc (v := v963) (lv' := [(3, .int v963), (4, .int y956), (2, .int y957), (0, .ref (w 0)), (1, .int xn)]) hx hb dX7_tick_141 hl (k := 1) rfl ev963.symm (by decide) rfl (fun ls hl => ?_)
                    refine lv_goto (tgt := 28) hx hb dX7_tick_144 (by decide) ?_
                    have tv963 : v963.toInt = y943.toInt + 1 := by rw [ev963, show y943 + Int32.ofInt 1 = y943 + 1 from rfl]; exact xinc (y := (4 : Int32)) (by rw [xk_lt, xk_4]; omega)
                    exact ih942 _ _ _ _ _ _ _ (by omega) (by omega) (trivial) hR (hML.mono (by omega)) hMD hMU hP hD hS (lv_sub hl [0, 2, 3, 4] rfl)
                  · have kc958 : ¬ (5 ≤ y956.toInt) := by have h9 := c958; rw [xk_le, xk_5] at h9; exact h9
                    refine lv_aload_n hx hb dX7_tick_62 rfl (lv_at hl 3 rfl) ?_
                    obtain ⟨j964, hj964⟩ := wG_7 (cy := cy) (N := N) (T := T) (I := Ia955) (Q := Q) (J := Ja955) (hM.at 0 (by decide)) (hM.k 0 (by decide) rfl)
                    refine va_get (D := (dC, dI)) (ci := 7) (v := .ref (T (w 0) 6)) (C := RX7) (T := TX7) (N := 18) hx hb hts hi7 hown hK hP j964 hj964 rfl 6 (by decide) (hts (.fieldLink RX7 31 "TallyLogsModel" "step" "[I") (by decide +kernel)) (fun _ h9 => h9) rfl dX7_tick_63 ?_
                    refine W.eq (g2 := F0 m 66 ls [.ref (w 7)]) (by rw [hM.t 6 (by decide)]) ?_
                    refine lv_iload_n hx hb dX7_tick_66 rfl (lv_at hl 1 rfl) ?_
                    obtain ⟨j965, hj965⟩ := wG_20 (cy := cy) (N := N) (T := T) (I := Ia955) (Q := Q) (J := Ja955) (hM.at 7 (by decide)) (hM.k 7 (by decide) rfl)
                    refine va_iald hx hb hK hP j965 1 hj965 rfl (hM.inN (n := 4) 7 (by decide) rfl rfl (xin_of hnn942 (by have kc := c945; simp only [xk_lt, xk_le, xk_0, xk_1, xk_2, xk_3, xk_4, xk_5, xk_6, xk_7, xk_8, xk_50] at kc; omega))) dX7_tick_67 ?_
                    refine lv_topi (fun x966 ex966 => ?_)
                    refine lv_iload hx hb dX7_tick_68 (lv_at hl 0 rfl) ?_
                    refine lv_ishr hx hb dX7_tick_70 ?_
                    refine lv_topi (fun v967 ev967 => ?_)
                    refine lv_iconst (v := 1) hx hb dX7_tick_71 (by decide) ?_
                    refine lv_iand hx hb dX7_tick_72 ?_
                    refine lv_topi (fun v968 ev968 => ?_)
                    refine lv_if_eq (tgt := 130) hx hb dX7_tick_73 (by decide) (fun c969 => ?_) (fun c969 => ?_)
                    · have kc969 : v968.toInt = 0 := by have h9 := c969; rw [xk_eq, xk_0] at h9; exact h9
                      obtain ⟨v970, ev970⟩ : ∃ y : Int32, y = y956 + Int32.ofInt 1 := ⟨_, rfl⟩
                      refine lv_iinc (v := v970) (lv' := [(4, .int v970), (3, .int y943), (2, .int y957), (0, .ref (w 0)), (1, .int xn)]) hx hb dX7_tick_130 hl (k := 0) rfl ev970.symm (by decide) rfl (fun ls hl => ?_)
                      refine lv_goto (tgt := 56) hx hb dX7_tick_133 (by decide) ?_
                      have tv970 : v970.toInt = y956.toInt + 1 := by rw [ev970, show y956 + Int32.ofInt 1 = y956 + 1 from rfl]; exact xinc (y := (5 : Int32)) (by rw [xk_lt, xk_5]; omega)
                      exact ih955 _ _ _ _ _ _ _ (by omega) (by omega) (by exact hiv955) hR (hML.mono (by omega)) hMD hMU hP hD hS (lv_sub hl [0, 1, 2, 3, 4] rfl)
                    · have kc969 : ¬ (v968.toInt = 0) := by have h9 := c969; rw [xk_eq, xk_0] at h9; exact h9
                      refine lv_iload hx hb dX7_tick_76 (lv_at hl 0 rfl) ?_
                      refine lv_aload_n hx hb dX7_tick_78 rfl (lv_at hl 3 rfl) ?_
                      obtain ⟨j971, hj971⟩ := wG_7 (cy := cy) (N := N) (T := T) (I := Ia955) (Q := Q) (J := Ja955) (hM.at 0 (by decide)) (hM.k 0 (by decide) rfl)
                      refine va_get (D := (dC, dI)) (ci := 7) (v := .ref (T (w 0) 3)) (C := RX7) (T := TX7) (N := 18) hx hb hts hi7 hown hK hP j971 hj971 rfl 3 (by decide) (hts (.fieldLink RX7 22 "TallyLogsModel" "leader" "[I") (by decide +kernel)) (fun _ h9 => h9) rfl dX7_tick_79 ?_
                      refine W.eq (g2 := F0 m 82 ls [.ref (w 4), .int y956]) (by rw [hM.t 3 (by decide)]) ?_
                      refine lv_iload_n hx hb dX7_tick_82 rfl (lv_at hl 1 rfl) ?_
                      obtain ⟨j972, hj972⟩ := wG_20 (cy := cy) (N := N) (T := T) (I := Ia955) (Q := Q) (J := Ja955) (hM.at 4 (by decide)) (hM.k 4 (by decide) rfl)
                      refine va_iald hx hb hK hP j972 1 hj972 rfl (hM.inN (n := 4) 4 (by decide) rfl rfl (xin_of hnn942 (by have kc := c945; simp only [xk_lt, xk_le, xk_0, xk_1, xk_2, xk_3, xk_4, xk_5, xk_6, xk_7, xk_8, xk_50] at kc; omega))) dX7_tick_83 ?_
                      refine lv_topi (fun x973 ex973 => ?_)
                      refine lv_icmp_eq (tgt := 130) hx hb dX7_tick_84 (by decide) (fun c974 => ?_) (fun c974 => ?_)
                      · have kc974 : y956.toInt = x973.toInt := by have h9 := c974; rw [xk_eq] at h9; exact h9
                        obtain ⟨v975, ev975⟩ : ∃ y : Int32, y = y956 + Int32.ofInt 1 := ⟨_, rfl⟩
                        refine lv_iinc (v := v975) (lv' := [(4, .int v975), (3, .int y943), (2, .int y957), (0, .ref (w 0)), (1, .int xn)]) hx hb dX7_tick_130 hl (k := 0) rfl ev975.symm (by decide) rfl (fun ls hl => ?_)
                        refine lv_goto (tgt := 56) hx hb dX7_tick_133 (by decide) ?_
                        have tv975 : v975.toInt = y956.toInt + 1 := by rw [ev975, show y956 + Int32.ofInt 1 = y956 + 1 from rfl]; exact xinc (y := (5 : Int32)) (by rw [xk_lt, xk_5]; omega)
                        exact ih955 _ _ _ _ _ _ _ (by omega) (by omega) (by exact hiv955) hR (hML.mono (by omega)) hMD hMU hP hD hS (lv_sub hl [0, 1, 2, 3, 4] rfl)
                      · have kc974 : ¬ (y956.toInt = x973.toInt) := by have h9 := c974; rw [xk_eq] at h9; exact h9
                        refine lv_aload_n hx hb dX7_tick_87 rfl (lv_at hl 3 rfl) ?_
                        obtain ⟨j976, hj976⟩ := wG_7 (cy := cy) (N := N) (T := T) (I := Ia955) (Q := Q) (J := Ja955) (hM.at 0 (by decide)) (hM.k 0 (by decide) rfl)
                        refine va_get (D := (dC, dI)) (ci := 7) (v := .int (Ia955 (w 0) 17)) (C := RX7) (T := TX7) (N := 18) hx hb hts hi7 hown hK hP j976 hj976 rfl 17 (by decide) (hts (.fieldLink RX7 119 "TallyLogsModel" "now" "I") (by decide +kernel)) (fun _ h9 => h9) rfl dX7_tick_88 ?_
                        refine lv_topi (fun x977 ex977 => ?_)
                        have tx977 : x977.toInt = (Ia955 (w 0) 17).toInt := congrArg Int32.toInt ex977
                        refine lv_aload_n hx hb dX7_tick_91 rfl (lv_at hl 3 rfl) ?_
                        obtain ⟨j978, hj978⟩ := wG_7 (cy := cy) (N := N) (T := T) (I := Ia955) (Q := Q) (J := Ja955) (hM.at 0 (by decide)) (hM.k 0 (by decide) rfl)
                        refine va_get (D := (dC, dI)) (ci := 7) (v := .ref (T (w 0) 0)) (C := RX7) (T := TX7) (N := 18) hx hb hts hi7 hown hK hP j978 hj978 rfl 0 (by decide) (hts (.fieldLink RX7 11 "TallyLogsModel" "log" "[[LTallyLogsModel$Log;") (by decide +kernel)) (fun _ h9 => h9) rfl dX7_tick_92 ?_
                        refine W.eq (g2 := F0 m 95 ls [.ref (w 1), .int x977]) (by rw [hM.t 0 (by decide)]) ?_
                        refine lv_iload_n hx hb dX7_tick_95 rfl (lv_at hl 1 rfl) ?_
                        obtain ⟨j979, hj979⟩ := wG_22 (cy := cy) (N := N) (T := T) (I := Ia955) (Q := Q) (J := Ja955) (hM.at 1 (by decide)) (hM.k 1 (by decide) rfl)
                        refine xg_aldg hx hb hK hP j979 2 hj979 rfl (xin_of hnn942 (by have kc := c945; simp only [xk_lt, xk_le, xk_0, xk_1, xk_2, xk_3, xk_4, xk_5, xk_6, xk_7, xk_8, xk_50] at kc; omega)) dX7_tick_96 ?_
                        refine W.eq (g2 := F0 m 97 ls [.ref (w (17 + y943.toNatClampNeg)), .int x977]) (by rw [hM.qo (vp_lt (n := 4) (xin_of hnn942 (by have kc := c945; simp only [xk_lt, xk_le, xk_0, xk_1, xk_2, xk_3, xk_4, xk_5, xk_6, xk_7, xk_8, xk_50] at kc; omega)))]; rfl) ?_
                        refine lv_iload hx hb dX7_tick_97 (lv_at hl 0 rfl) ?_
                        obtain ⟨j980, hj980⟩ := wG_23 (cy := cy) (N := N) (T := T) (I := Ia955) (Q := Q) (J := Ja955) (hM.row (vp_lt (n := 4) (xin_of hnn942 (by have kc := c945; simp only [xk_lt, xk_le, xk_0, xk_1, xk_2, xk_3, xk_4, xk_5, xk_6, xk_7, xk_8, xk_50] at kc; omega)))).1 (hM.row (vp_lt (n := 4) (xin_of hnn942 (by have kc := c945; simp only [xk_lt, xk_le, xk_0, xk_1, xk_2, xk_3, xk_4, xk_5, xk_6, xk_7, xk_8, xk_50] at kc; omega)))).2
                        refine va_aldq hx hb hK hP j980 3 hj980 rfl (xin_of hnn955 (by have kc := c958; simp only [xk_lt, xk_le, xk_0, xk_1, xk_2, xk_3, xk_4, xk_5, xk_6, xk_7, xk_8, xk_50] at kc; omega)) dX7_tick_99 ?_
                        have hjl981 : (5 * y943.toNatClampNeg + y956.toNatClampNeg) < 20 := by have h1 := (vp_lt (n := 4) (xin_of hnn942 (by have kc := c945; simp only [xk_lt, xk_le, xk_0, xk_1, xk_2, xk_3, xk_4, xk_5, xk_6, xk_7, xk_8, xk_50] at kc; omega))); have h2 := (vp_lt (n := 5) (xin_of hnn955 (by have kc := c958; simp only [xk_lt, xk_le, xk_0, xk_1, xk_2, xk_3, xk_4, xk_5, xk_6, xk_7, xk_8, xk_50] at kc; omega))); omega
                        refine W.eq (g2 := F0 m 100 ls [.ref (w (21 + (5 * y943.toNatClampNeg + y956.toNatClampNeg))), .int x977]) (by rw [hM.qr (vp_lt (n := 4) (xin_of hnn942 (by have kc := c945; simp only [xk_lt, xk_le, xk_0, xk_1, xk_2, xk_3, xk_4, xk_5, xk_6, xk_7, xk_8, xk_50] at kc; omega))) (vp_lt (n := 5) (xin_of hnn955 (by have kc := c958; simp only [xk_lt, xk_le, xk_0, xk_1, xk_2, xk_3, xk_4, xk_5, xk_6, xk_7, xk_8, xk_50] at kc; omega)))]; rfl) ?_
                        obtain ⟨j982, hj982⟩ := wG_6 (cy := cy) (N := N) (T := T) (I := Ia955) (Q := Q) (J := Ja955) (hM.lg hjl981).1 (hM.lg hjl981).2
                        refine va_get (D := (dC, dI)) (ci := 6) (v := .int (Ia955 (w (21 + (5 * y943.toNatClampNeg + y956.toNatClampNeg))) 6)) (C := RX6) (T := TX6) (N := 7) hx hb hts hi6 hown hK hP j982 hj982 rfl 6 (by decide) (hts (.fieldLink RX7 122 "TallyLogsModel$Log" "caught" "I") (by decide +kernel)) (fun _ h9 => h9) rfl dX7_tick_100 ?_
                        refine lv_topi (fun x983 ex983 => ?_)
                        have tx983 : x983.toInt = (Ia955 (w (21 + (5 * y943.toNatClampNeg + y956.toNatClampNeg))) 6).toInt := congrArg Int32.toInt ex983
                        refine lv_isub hx hb dX7_tick_103 ?_
                        refine lv_topi (fun v984 ev984 => ?_)
                        refine lv_bipush (v := 10) hx hb dX7_tick_104 (by decide) ?_
                        refine lv_icmp_gt (tgt := 112) hx hb dX7_tick_106 (by decide) (fun c985 => ?_) (fun c985 => ?_)
                        · have kc985 : 10 < v984.toInt := by have h9 := c985; rw [xk_lt, (show (10 : Int32).toInt = 10 by decide)] at h9; exact h9
                          refine lv_aload_n hx hb dX7_tick_112 rfl (lv_at hl 3 rfl) ?_
                          obtain ⟨j986, hj986⟩ := wG_7 (cy := cy) (N := N) (T := T) (I := Ia955) (Q := Q) (J := Ja955) (hM.at 0 (by decide)) (hM.k 0 (by decide) rfl)
                          refine va_get (D := (dC, dI)) (ci := 7) (v := .ref (T (w 0) 6)) (C := RX7) (T := TX7) (N := 18) hx hb hts hi7 hown hK hP j986 hj986 rfl 6 (by decide) (hts (.fieldLink RX7 31 "TallyLogsModel" "step" "[I") (by decide +kernel)) (fun _ h9 => h9) rfl dX7_tick_113 ?_
                          refine W.eq (g2 := F0 m 116 ls [.ref (w 7)]) (by rw [hM.t 6 (by decide)]) ?_
                          refine lv_iload_n hx hb dX7_tick_116 rfl (lv_at hl 1 rfl) ?_
                          refine lv_dup2_11 hx hb dX7_tick_117 rfl rfl ?_
                          obtain ⟨j987, hj987⟩ := wG_20 (cy := cy) (N := N) (T := T) (I := Ia955) (Q := Q) (J := Ja955) (hM.at 7 (by decide)) (hM.k 7 (by decide) rfl)
                          refine va_iald hx hb hK hP j987 1 hj987 rfl (hM.inN (n := 4) 7 (by decide) rfl rfl (xin_of hnn942 (by have kc := c945; simp only [xk_lt, xk_le, xk_0, xk_1, xk_2, xk_3, xk_4, xk_5, xk_6, xk_7, xk_8, xk_50] at kc; omega))) dX7_tick_118 ?_
                          refine lv_topi (fun x988 ex988 => ?_)
                          refine lv_iconst (v := 1) hx hb dX7_tick_119 (by decide) ?_
                          refine lv_iload hx hb dX7_tick_120 (lv_at hl 0 rfl) ?_
                          refine lv_ishl hx hb dX7_tick_122 ?_
                          refine lv_topi (fun v989 ev989 => ?_)
                          refine lv_iconst (v := (-1)) hx hb dX7_tick_123 (by decide) ?_
                          refine lv_ixor hx hb dX7_tick_124 ?_
                          refine lv_topi (fun v990 ev990 => ?_)
                          refine lv_iand hx hb dX7_tick_125 ?_
                          refine lv_topi (fun v991 ev991 => ?_)
                          obtain ⟨j992, hj992⟩ := wG_20 (cy := cy) (N := N) (T := T) (I := Ia955) (Q := Q) (J := Ja955) (hM.at 7 (by decide)) (hM.k 7 (by decide) rfl)
                          have hDo := hD
                          refine va_iast (x := v991) hx hb hK hP hD hS j992 1 hj992 rfl (hM.inN (n := 4) 7 (by decide) rfl rfl (xin_of hnn942 (by have kc := c945; simp only [xk_lt, xk_le, xk_0, xk_1, xk_2, xk_3, xk_4, xk_5, xk_6, xk_7, xk_8, xk_50] at kc; omega))) dX7_tick_126 (fun H locs hP hD hS => ?_)
                          have hP := Eq.mp (congrArg (fun w => va_P (dC, dI) vwCl w H) (wS_20 hDo (hM.at 7 (by decide)) (hM.k 7 (by decide) rfl) hj992)) hP
                          obtain ⟨J993, eJ993⟩ : ∃ z, z = va_up Ja955 (w 7) (upd (Ja955 (w 7)) y943.toNatClampNeg v991) := ⟨_, rfl⟩
                          rw [← eJ993] at hP
                          have hR : RM w [] I J Ia955 J993 := by rw [eJ993]; exact hR.pj hM (by decide) (by decide)
                          have hMD : MD w J993 := by
                            rw [eJ993, ev991, ex988, ev990, ev989]
                            exact hMD.p7 hM ((hMD _ (vp_lt (n := 4) (xin_of hnn942 (by have kc := c945; simp only [xk_lt, xk_le, xk_0, xk_1, xk_2, xk_3, xk_4, xk_5, xk_6, xk_7, xk_8, xk_50] at kc; omega)))).clr (xin_of hnn955 (by have kc := c958; simp only [xk_lt, xk_le, xk_0, xk_1, xk_2, xk_3, xk_4, xk_5, xk_6, xk_7, xk_8, xk_50] at kc; omega)) (fun q => c974 (by rw [ex973]; exact q.symm)))
                          have hD : va_D A (va_pl L (wF cy K N T Ia955 Q J993)) := pD hDo
                          obtain ⟨v994, ev994⟩ : ∃ y : Int32, y = y957 + Int32.ofInt 1 := ⟨_, rfl⟩
                          refine lv_iinc (v := v994) (lv' := [(2, .int v994), (4, .int y956), (3, .int y943), (0, .ref (w 0)), (1, .int xn)]) hx hb dX7_tick_127 hl (k := 2) rfl ev994.symm (by decide) rfl (fun ls hl => ?_)
                          obtain ⟨v995, ev995⟩ : ∃ y : Int32, y = y956 + Int32.ofInt 1 := ⟨_, rfl⟩
                          refine lv_iinc (v := v995) (lv' := [(4, .int v995), (2, .int v994), (3, .int y943), (0, .ref (w 0)), (1, .int xn)]) hx hb dX7_tick_130 hl (k := 1) rfl ev995.symm (by decide) rfl (fun ls hl => ?_)
                          refine lv_goto (tgt := 56) hx hb dX7_tick_133 (by decide) ?_
                          have tv995 : v995.toInt = y956.toInt + 1 := by rw [ev995, show y956 + Int32.ofInt 1 = y956 + 1 from rfl]; exact xinc (y := (5 : Int32)) (by rw [xk_lt, xk_5]; omega)
                          exact ih955 _ _ _ _ _ _ _ (by omega) (by omega) (by rw [eJ993, va_up_ne _ _ (hM.ne (by decide) (by decide) (by decide))]; exact hiv955) hR (hML.mono (by omega)) hMD hMU hP hD hS (lv_sub hl [0, 2, 1, 3, 4] rfl)
                        · have kc985 : ¬ (10 < v984.toInt) := by have h9 := c985; rw [xk_lt, (show (10 : Int32).toInt = 10 by decide)] at h9; exact h9
                          refine lv_goto (tgt := 130) hx hb dX7_tick_109 (by decide) ?_
                          obtain ⟨v996, ev996⟩ : ∃ y : Int32, y = y956 + Int32.ofInt 1 := ⟨_, rfl⟩
                          refine lv_iinc (v := v996) (lv' := [(4, .int v996), (3, .int y943), (2, .int y957), (0, .ref (w 0)), (1, .int xn)]) hx hb dX7_tick_130 hl (k := 0) rfl ev996.symm (by decide) rfl (fun ls hl => ?_)
                          refine lv_goto (tgt := 56) hx hb dX7_tick_133 (by decide) ?_
                          have tv996 : v996.toInt = y956.toInt + 1 := by rw [ev996, show y956 + Int32.ofInt 1 = y956 + 1 from rfl]; exact xinc (y := (5 : Int32)) (by rw [xk_lt, xk_5]; omega)
                          exact ih955 _ _ _ _ _ _ _ (by omega) (by omega) (by exact hiv955) hR (hML.mono (by omega)) hMD hMU hP hD hS (lv_sub hl [0, 1, 2, 3, 4] rfl)
              exact hLP955 _ _ _ _ _ _ _ _ (Nat.lt_succ_self _) (by decide) (eln953) hR (hML.mono (by omega)) hMD hMU hP hD hS (lv_sub hl [0, 1, 2, 3, 4] rfl)
    exact hLP942 _ _ _ _ _ _ _ _ (Nat.lt_succ_self _) (by decide) (trivial) hR (hML.mono (by omega)) hMD hMU hP hD hS (lv_sub hl [0, 1, 2, 3] rfl)
  · refine lv_iconst (v := (-1)) hx hb dX7_tick_12 (by decide) ?_
    exact W.iret (v := (-1)) hx hb hr (fun t ht hW => ⟨⟨(-1), (I, J), rfl, ⟨⟨hML.mono (by omega), hMD, hMU⟩, hR⟩, by rw [ht]; exact hP, va_K.moved hW.alike hK, hD⟩, hS.F ht⟩) hS.2.2 dX7_tick_13
set_option maxHeartbeats 4000000 in
set_option maxRecDepth 100000 in
/-- settle -/
theorem c_X7_settle (l : Launch) (dC : Nat → ClassId) (dI : Nat → Nat → Nat) (cy : Nat → ClassId) (w : Nat → Nat) (L : List Nat) (K N : Nat → Nat) (T : Nat → Nat → Nat) (Q : Nat → Nat → Option Nat) (I J : Nat → Nat → Int32) (sz : Nat) (E : Int) (xk : Int32) (hM : MS w L K N T Q) (hI : MI w E I J) (hE : E ≤ 1000) : Met l yX7_settle wsX7_settle ({ frames := 4, cells := 0, slots := 0, locals := 99 }) (va_Pc [.ref (w 0), .int xk] (mW dC dI cy L (wF cy K N T I Q J) sz)) (va_Qi (fun (r : Int32) (d : (Nat → Nat → Int32) × (Nat → Nat → Int32)) => MI w (E + 5) d.1 d.2 ∧ RM w [] I J d.1 d.2) (fun (d : (Nat → Nat → Int32) × (Nat → Nat → Int32)) t => va_P (dC, dI) vwCl (va_pl L (wF cy K N T d.1 Q d.2)) t.heap ∧ va_K (dC, dI) vwCl (mTy cy) t ∧ va_D (va_A (va_pl L (wF cy K N T I Q J)) sz) (va_pl L (wF cy K N T d.1 Q d.2))) (va_A (va_pl L (wF cy K N T I Q J)) sz)) 0 0 (va_A (va_pl L (wF cy K N T I Q J)) sz) := by
  refine Met.ofW (cc := cX7_settle) (maxL := 4) (ret := (some .int)) (by decide) rfl ?_
  intro p e s m args below meth c s₁ B hml hv
  obtain ⟨rfl, hsz, ⟨hP, hK⟩, hD0⟩ := hv
  have hx := B.exec
  have hb := B.bytes
  have hr := B.returns
  have hts := atoms_spec (ws := wsX7_settle) B.pre
  have hown : s.vm.findClass RX7 = some m.cls := findClass_of_methodNamed B.named
  have hlocks := B.notSynchronized
  have hi7 : ∀ w ∈ wsX70, w ∈ wsX7_settle := by decide +kernel
  have hl := lv_entry ([.ref (w 0), .int xk]) (n := 4) (Nat.le_of_ble_eq_true rfl)
  rw [lg_entry_eq]
  generalize (lg_sl ([.ref (w 0), .int xk]) ++ List.replicate (4 - (lg_sl ([.ref (w 0), .int xk])).length) Slot.unset).toArray = ls at hl ⊢
  have hl : lv_has ls 4 [(0, .ref (w 0)), (1, .int xk)] := hl
  subst hsz
  have hD := hD0.self (sz := s.heap.size)
  generalize hAe : va_A (va_pl L (wF cy K N T I Q J)) s.heap.size = A at hD ⊢
  have hA : ∀ q : Nat, s.heap.size ≤ q → A q := fun q h => by rw [← hAe]; exact Or.inr h
  have hS : va_S A s.heap s.heap [] := va_S.rf
  have hR : RM w [] I J I J := RM.rf
  obtain ⟨hML, hMD, hMU⟩ := hI
  refine lv_iload_n hx hb dX7_settle_0 rfl (lv_at hl 1 rfl) ?_
  refine lv_i2l (v := xk.toInt64) hx hb dX7_settle_1 rfl ?_
  refine lv_lconst (v := 0) hx hb dX7_settle_2 (by decide) ?_
  refine lv_ldc2 hx hb hown (hts (.constantLong RX7 129 5) (by decide +kernel)) dX7_settle_3 ?_
  refine vp_callSi (W.runS (As := [.long xk.toInt64, .long 0, .long 5]) (rest := []) ⟨hx, hb, hml, hown, hts⟩ (c_X7_in l xk.toInt64 0 5) (va_cwS 3 hts gX7_settle_X7_in rfl rfl rfl (by decide +kernel) ⟨Nat.le_of_ble_eq_true rfl, Nat.le_of_ble_eq_true rfl⟩) preEq rfl rfl hl.1 rfl (lv_room (Nat.le_of_ble_eq_true rfl)) dX7_settle_6 ⟨Nat.le_of_ble_eq_true rfl, Nat.le_of_ble_eq_true rfl⟩) (fun r997 hr997 => ?_)
  subst hr997
  refine lv_if_ne (tgt := 14) hx hb dX7_settle_9 (by decide) (fun c998 => ?_) (fun c998 => ?_)
  · have hin999 : vp_in xk 6 := xin_sp c998 (by decide)
    refine lv_aload_n hx hb dX7_settle_14 rfl (lv_at hl 0 rfl) ?_
    obtain ⟨j1000, hj1000⟩ := wG_7 (cy := cy) (N := N) (T := T) (I := I) (Q := Q) (J := J) (hM.at 0 (by decide)) (hM.k 0 (by decide) rfl)
    refine va_get (D := (dC, dI)) (ci := 7) (v := .ref (T (w 0) 8)) (C := RX7) (T := TX7) (N := 18) hx hb hts hi7 hown hK hP j1000 hj1000 rfl 8 (by decide) (hts (.fieldLink RX7 37 "TallyLogsModel" "mode" "[I") (by decide +kernel)) (fun _ h9 => h9) rfl dX7_settle_15 ?_
    refine W.eq (g2 := F0 m 18 ls [.ref (w 9)]) (by rw [hM.t 8 (by decide)]) ?_
    refine lv_iload_n hx hb dX7_settle_18 rfl (lv_at hl 1 rfl) ?_
    obtain ⟨j1001, hj1001⟩ := wG_20 (cy := cy) (N := N) (T := T) (I := I) (Q := Q) (J := J) (hM.at 9 (by decide)) (hM.k 9 (by decide) rfl)
    refine va_iald hx hb hK hP j1001 1 hj1001 rfl (hM.inN (n := 6) 9 (by decide) rfl rfl hin999) dX7_settle_19 ?_
    refine lv_topi (fun x1002 ex1002 => ?_)
    refine lv_iconst (v := 2) hx hb dX7_settle_20 (by decide) ?_
    refine lv_icmp_eq (tgt := 27) hx hb dX7_settle_21 (by decide) (fun c1003 => ?_) (fun c1003 => ?_)
    · have kc1003 : x1002.toInt = 2 := by have h9 := c1003; rw [xk_eq, xk_2] at h9; exact h9
      refine lv_iconst (v := 0) hx hb dX7_settle_27 (by decide) ?_
      refine lv_istore_n (lv' := [(2, .int 0), (0, .ref (w 0)), (1, .int xk)]) hx hb dX7_settle_28 rfl hl (by decide) rfl (fun ls hl => ?_)
      refine wq_gen (fun Qz hQz => ?_)
      have hLP1004 : ∀ (n : Nat) (y1005 : Int32) (Ia1004 Ja1004 : Nat → Nat → Int32) (H : Heap) (locs : List Loc) (ls : Array Slot), (4 - y1005.toInt).toNat < n → 0 ≤ y1005.toInt → (y1005.toInt ≤ 4) → RM w [] I J Ia1004 Ja1004 → ML w (E + y1005.toInt) Ia1004 → MD w Ja1004 → MU w Ia1004 →  va_P (dC, dI) vwCl (va_pl L (wF cy K N T Ia1004 Q Ja1004)) H → va_D A (va_pl L (wF cy K N T Ia1004 Q Ja1004)) → va_S A s.heap H locs → lv_has ls 4 [(2, .int y1005), (0, .ref (w 0)), (1, .int xk)] → W p l e (headSpec wsX7_settle ({ frames := 4, cells := 0, slots := 0, locals := 99 })).room s m ([.ref (w 0), .int xk] : List Value).toArray below meth c H locs 0 0 Qz (F0 m 29 ls []) := by
        intro n
        induction n with
        | zero => intro y1005 Ia1004 Ja1004 H locs ls hms; exact absurd hms (Nat.not_lt_zero _)
        | succ n ih1004 =>
          intro y1005 Ia1004 Ja1004 H locs ls hms hnn1004 hiv1004 hR hML hMD hMU hP hD hS hl
          refine lv_iload_n hx hb dX7_settle_29 rfl (lv_at hl 0 rfl) ?_
          refine lv_iconst (v := 4) hx hb dX7_settle_30 (by decide) ?_
          refine lv_icmp_ge (tgt := 124) hx hb dX7_settle_31 (by decide) (fun c1006 => ?_) (fun c1006 => ?_)
          · have kc1006 : 4 ≤ y1005.toInt := by have h9 := c1006; rw [xk_le, xk_4] at h9; exact h9
            refine lv_aload_n hx hb dX7_settle_124 rfl (lv_at hl 1 rfl) ?_
            obtain ⟨j1007, hj1007⟩ := wG_7 (cy := cy) (N := N) (T := T) (I := Ia1004) (Q := Q) (J := Ja1004) (hM.at 0 (by decide)) (hM.k 0 (by decide) rfl)
            refine va_get (D := (dC, dI)) (ci := 7) (v := .ref (T (w 0) 9)) (C := RX7) (T := TX7) (N := 18) hx hb hts hi7 hown hK hP j1007 hj1007 rfl 9 (by decide) (hts (.fieldLink RX7 40 "TallyLogsModel" "bound" "[I") (by decide +kernel)) (fun _ h9 => h9) rfl dX7_settle_125 ?_
            refine W.eq (g2 := F0 m 128 ls [.ref (w 10)]) (by rw [hM.t 9 (by decide)]) ?_
            refine lv_iload_n hx hb dX7_settle_128 rfl (lv_at hl 2 rfl) ?_
            obtain ⟨j1008, hj1008⟩ := wG_20 (cy := cy) (N := N) (T := T) (I := Ia1004) (Q := Q) (J := Ja1004) (hM.at 10 (by decide)) (hM.k 10 (by decide) rfl)
            refine va_iald hx hb hK hP j1008 1 hj1008 rfl (hM.inN (n := 6) 10 (by decide) rfl rfl hin999) dX7_settle_129 ?_
            refine lv_topi (fun x1009 ex1009 => ?_)
            refine lv_if_ne (tgt := 140) hx hb dX7_settle_130 (by decide) (fun c1010 => ?_) (fun c1010 => ?_)
            · have kc1010 : ¬ (x1009.toInt = 0) := by have h9 := c1010; rw [xk_eq, xk_0] at h9; exact h9
              refine lv_aload_n hx hb dX7_settle_140 rfl (lv_at hl 1 rfl) ?_
              obtain ⟨j1011, hj1011⟩ := wG_7 (cy := cy) (N := N) (T := T) (I := Ia1004) (Q := Q) (J := Ja1004) (hM.at 0 (by decide)) (hM.k 0 (by decide) rfl)
              refine va_get (D := (dC, dI)) (ci := 7) (v := .ref (T (w 0) 9)) (C := RX7) (T := TX7) (N := 18) hx hb hts hi7 hown hK hP j1011 hj1011 rfl 9 (by decide) (hts (.fieldLink RX7 40 "TallyLogsModel" "bound" "[I") (by decide +kernel)) (fun _ h9 => h9) rfl dX7_settle_141 ?_
              refine W.eq (g2 := F0 m 144 ls [.ref (w 10)]) (by rw [hM.t 9 (by decide)]) ?_
              refine lv_iload_n hx hb dX7_settle_144 rfl (lv_at hl 2 rfl) ?_
              obtain ⟨j1012, hj1012⟩ := wG_20 (cy := cy) (N := N) (T := T) (I := Ia1004) (Q := Q) (J := Ja1004) (hM.at 10 (by decide)) (hM.k 10 (by decide) rfl)
              refine va_iald hx hb hK hP j1012 1 hj1012 rfl (hM.inN (n := 6) 10 (by decide) rfl rfl hin999) dX7_settle_145 ?_
              refine lv_topi (fun x1013 ex1013 => ?_)
              refine vp_callSi (W.runS (As := [.int x1013]) (rest := []) ⟨hx, hb, hml, hown, hts⟩ (c_J6_bitCount_0f7a4 l x1013) (va_cwS 1 hts gX7_settle_J6_bitCount_0f7a4 rfl rfl rfl (by decide +kernel) ⟨Nat.le_of_ble_eq_true rfl, Nat.le_of_ble_eq_true rfl⟩) preEq rfl rfl hl.1 rfl (lv_room (Nat.le_of_ble_eq_true rfl)) dX7_settle_146 ⟨Nat.le_of_ble_eq_true rfl, Nat.le_of_ble_eq_true rfl⟩) (fun r1014 hr1014 => ?_)
              subst hr1014
              rw [hQz]
              exact W.iret (v := (sp_bc x1013)) hx hb hr (fun t ht hW => ⟨⟨(sp_bc x1013), (Ia1004, Ja1004), rfl, ⟨⟨hML.mono (by omega), hMD, hMU⟩, hR⟩, by rw [ht]; exact hP, va_K.moved hW.alike hK, hD⟩, hS.F ht⟩) hS.2.2 dX7_settle_149
            · have kc1010 : x1009.toInt = 0 := by have h9 := c1010; rw [xk_eq, xk_0] at h9; exact h9
              refine lv_aload_n hx hb dX7_settle_133 rfl (lv_at hl 1 rfl) ?_
              obtain ⟨j1015, hj1015⟩ := wG_7 (cy := cy) (N := N) (T := T) (I := Ia1004) (Q := Q) (J := Ja1004) (hM.at 0 (by decide)) (hM.k 0 (by decide) rfl)
              refine va_get (D := (dC, dI)) (ci := 7) (v := .ref (T (w 0) 8)) (C := RX7) (T := TX7) (N := 18) hx hb hts hi7 hown hK hP j1015 hj1015 rfl 8 (by decide) (hts (.fieldLink RX7 37 "TallyLogsModel" "mode" "[I") (by decide +kernel)) (fun _ h9 => h9) rfl dX7_settle_134 ?_
              refine W.eq (g2 := F0 m 137 ls [.ref (w 9)]) (by rw [hM.t 8 (by decide)]) ?_
              refine lv_iload_n hx hb dX7_settle_137 rfl (lv_at hl 2 rfl) ?_
              refine lv_iconst (v := 0) hx hb dX7_settle_138 (by decide) ?_
              obtain ⟨j1016, hj1016⟩ := wG_20 (cy := cy) (N := N) (T := T) (I := Ia1004) (Q := Q) (J := Ja1004) (hM.at 9 (by decide)) (hM.k 9 (by decide) rfl)
              have hDo := hD
              refine va_iast (x := 0) hx hb hK hP hD hS j1016 1 hj1016 rfl (hM.inN (n := 6) 9 (by decide) rfl rfl hin999) dX7_settle_139 (fun H locs hP hD hS => ?_)
              have hP := Eq.mp (congrArg (fun w => va_P (dC, dI) vwCl w H) (wS_20 hDo (hM.at 9 (by decide)) (hM.k 9 (by decide) rfl) hj1016)) hP
              obtain ⟨J1017, eJ1017⟩ : ∃ z, z = va_up Ja1004 (w 9) (upd (Ja1004 (w 9)) xk.toNatClampNeg 0) := ⟨_, rfl⟩
              rw [← eJ1017] at hP
              have hR : RM w [] I J Ia1004 J1017 := by rw [eJ1017]; exact hR.pj hM (by decide) (by decide)
              have hMD : MD w J1017 := by rw [eJ1017]; exact hMD.pj hM (by decide) (by decide)
              have hD : va_D A (va_pl L (wF cy K N T Ia1004 Q J1017)) := pD hDo
              refine lv_aload_n hx hb dX7_settle_140 rfl (lv_at hl 1 rfl) ?_
              obtain ⟨j1018, hj1018⟩ := wG_7 (cy := cy) (N := N) (T := T) (I := Ia1004) (Q := Q) (J := J1017) (hM.at 0 (by decide)) (hM.k 0 (by decide) rfl)
              refine va_get (D := (dC, dI)) (ci := 7) (v := .ref (T (w 0) 9)) (C := RX7) (T := TX7) (N := 18) hx hb hts hi7 hown hK hP j1018 hj1018 rfl 9 (by decide) (hts (.fieldLink RX7 40 "TallyLogsModel" "bound" "[I") (by decide +kernel)) (fun _ h9 => h9) rfl dX7_settle_141 ?_
              refine W.eq (g2 := F0 m 144 ls [.ref (w 10)]) (by rw [hM.t 9 (by decide)]) ?_
              refine lv_iload_n hx hb dX7_settle_144 rfl (lv_at hl 2 rfl) ?_
              obtain ⟨j1019, hj1019⟩ := wG_20 (cy := cy) (N := N) (T := T) (I := Ia1004) (Q := Q) (J := J1017) (hM.at 10 (by decide)) (hM.k 10 (by decide) rfl)
              refine va_iald hx hb hK hP j1019 1 hj1019 rfl (hM.inN (n := 6) 10 (by decide) rfl rfl hin999) dX7_settle_145 ?_
              refine lv_topi (fun x1020 ex1020 => ?_)
              refine vp_callSi (W.runS (As := [.int x1020]) (rest := []) ⟨hx, hb, hml, hown, hts⟩ (c_J6_bitCount_0f7a4 l x1020) (va_cwS 1 hts gX7_settle_J6_bitCount_0f7a4 rfl rfl rfl (by decide +kernel) ⟨Nat.le_of_ble_eq_true rfl, Nat.le_of_ble_eq_true rfl⟩) preEq rfl rfl hl.1 rfl (lv_room (Nat.le_of_ble_eq_true rfl)) dX7_settle_146 ⟨Nat.le_of_ble_eq_true rfl, Nat.le_of_ble_eq_true rfl⟩) (fun r1021 hr1021 => ?_)
              subst hr1021
              rw [hQz]
              exact W.iret (v := (sp_bc x1020)) hx hb hr (fun t ht hW => ⟨⟨(sp_bc x1020), (Ia1004, J1017), rfl, ⟨⟨hML.mono (by omega), hMD, hMU⟩, hR⟩, by rw [ht]; exact hP, va_K.moved hW.alike hK, hD⟩, hS.F ht⟩) hS.2.2 dX7_settle_149
          · have kc1006 : ¬ (4 ≤ y1005.toInt) := by have h9 := c1006; rw [xk_le, xk_4] at h9; exact h9
            refine lv_aload_n hx hb dX7_settle_34 rfl (lv_at hl 1 rfl) ?_
            obtain ⟨j1022, hj1022⟩ := wG_7 (cy := cy) (N := N) (T := T) (I := Ia1004) (Q := Q) (J := Ja1004) (hM.at 0 (by decide)) (hM.k 0 (by decide) rfl)
            refine va_get (D := (dC, dI)) (ci := 7) (v := .ref (T (w 0) 9)) (C := RX7) (T := TX7) (N := 18) hx hb hts hi7 hown hK hP j1022 hj1022 rfl 9 (by decide) (hts (.fieldLink RX7 40 "TallyLogsModel" "bound" "[I") (by decide +kernel)) (fun _ h9 => h9) rfl dX7_settle_35 ?_
            refine W.eq (g2 := F0 m 38 ls [.ref (w 10)]) (by rw [hM.t 9 (by decide)]) ?_
            refine lv_iload_n hx hb dX7_settle_38 rfl (lv_at hl 2 rfl) ?_
            obtain ⟨j1023, hj1023⟩ := wG_20 (cy := cy) (N := N) (T := T) (I := Ia1004) (Q := Q) (J := Ja1004) (hM.at 10 (by decide)) (hM.k 10 (by decide) rfl)
            refine va_iald hx hb hK hP j1023 1 hj1023 rfl (hM.inN (n := 6) 10 (by decide) rfl rfl hin999) dX7_settle_39 ?_
            refine lv_topi (fun x1024 ex1024 => ?_)
            refine lv_iload_n hx hb dX7_settle_40 rfl (lv_at hl 0 rfl) ?_
            refine lv_ishr hx hb dX7_settle_41 ?_
            refine lv_topi (fun v1025 ev1025 => ?_)
            refine lv_iconst (v := 1) hx hb dX7_settle_42 (by decide) ?_
            refine lv_iand hx hb dX7_settle_43 ?_
            refine lv_topi (fun v1026 ev1026 => ?_)
            refine lv_if_ne (tgt := 50) hx hb dX7_settle_44 (by decide) (fun c1027 => ?_) (fun c1027 => ?_)
            · have kc1027 : ¬ (v1026.toInt = 0) := by have h9 := c1027; rw [xk_eq, xk_0] at h9; exact h9
              refine lv_aload_n hx hb dX7_settle_50 rfl (lv_at hl 1 rfl) ?_
              refine lv_iload_n hx hb dX7_settle_51 rfl (lv_at hl 0 rfl) ?_
              obtain ⟨j1029, hj1029⟩ := wG_7 (cy := cy) (N := N) (T := T) (I := Ia1004) (Q := Q) (J := Ja1004) (hM.at 0 (by decide)) (hM.k 0 (by decide) rfl)
              refine va_csq (W.runV (As := [.int y1005]) (rest := []) ⟨hx, hb, hml, hown, hts⟩ (c_X7_own l dC dI cy w L K N T Q Ia1004 Ja1004 y1005 hM (xin_of hnn1004 (by have kc := c1006; simp only [xk_lt, xk_le, xk_0, xk_1, xk_2, xk_3, xk_4, xk_5, xk_6, xk_7, xk_8, xk_50] at kc; omega))) (cwV 1 hts gX7_settle_X7_own rfl rfl rfl (by decide +kernel) ⟨Nat.le_of_ble_eq_true rfl, Nat.le_of_ble_eq_true rfl⟩) ⟨mb_blind, va_recv hK hP (ci := 7) (q0 := j1029) rfl hj1029, fun U hU hW => ⟨rfl, mb_pre hP hK hU hW⟩⟩ rfl rfl hl.1 rfl (lv_room (Nat.le_of_ble_eq_true rfl)) dX7_settle_52 ⟨Nat.le_of_ble_eq_true rfl, Nat.le_of_ble_eq_true rfl⟩) (fun r1028 hr1028 => ?_)
              subst hr1028
              rcases sp_ow_cs w (Ia1004 (w 0) 16) (Ja1004 (w 4) y1005.toNatClampNeg) y1005.toNatClampNeg with hon1030 | ⟨n1030, hnn1030, eln1030, hubn1030, hon1030⟩
              · refine W.eq (g2 := F0 m 55 ls [.null]) (by rw [hon1030]; rfl) ?_
                refine lv_astore_nN (lv' := [(3, .null), (2, .int y1005), (0, .ref (w 0)), (1, .int xk)]) hx hb dX7_settle_55 rfl hl (by decide) rfl (fun ls hl => ?_)
                refine lv_aload_nN hx hb dX7_settle_56 rfl (lv_at hl 0 rfl) ?_
                refine lv_ifnullN (tgt := 118) hx hb dX7_settle_57 (by decide) ?_
                obtain ⟨v1031, ev1031⟩ : ∃ y : Int32, y = y1005 + Int32.ofInt 1 := ⟨_, rfl⟩
                refine lv_iinc (v := v1031) (lv' := [(2, .int v1031), (3, .null), (0, .ref (w 0)), (1, .int xk)]) hx hb dX7_settle_118 hl (k := 1) rfl ev1031.symm (by decide) rfl (fun ls hl => ?_)
                refine lv_goto (tgt := 29) hx hb dX7_settle_121 (by decide) ?_
                have tv1031 : v1031.toInt = y1005.toInt + 1 := by rw [ev1031, show y1005 + Int32.ofInt 1 = y1005 + 1 from rfl]; exact xinc (y := (4 : Int32)) (by rw [xk_lt, xk_4]; omega)
                exact ih1004 _ _ _ _ _ _ (by omega) (by omega) (by omega) hR (hML.mono (by omega)) hMD hMU hP hD hS (lv_sub hl [0, 2, 3] rfl)
              · have hjn1030 : (5 * y1005.toNatClampNeg + n1030) < 20 := by have h1 := vp_lt (n := 4) (xin_of hnn1004 (by have kc := c1006; simp only [xk_lt, xk_le, xk_0, xk_1, xk_2, xk_3, xk_4, xk_5, xk_6, xk_7, xk_8, xk_50] at kc; omega)); omega
                refine W.eq (g2 := F0 m 55 ls [.ref (w (21 + (5 * y1005.toNatClampNeg + n1030)))]) (by rw [hon1030]; rfl) ?_
                refine lv_astore_n (lv' := [(3, .ref (w (21 + (5 * y1005.toNatClampNeg + n1030)))), (2, .int y1005), (0, .ref (w 0)), (1, .int xk)]) hx hb dX7_settle_55 rfl hl (by decide) rfl (fun ls hl => ?_)
                refine lv_aload_n hx hb dX7_settle_56 rfl (lv_at hl 0 rfl) ?_
                refine lv_ifnull hx hb dX7_settle_57 ?_
                refine lv_aload_n hx hb dX7_settle_60 rfl (lv_at hl 0 rfl) ?_
                obtain ⟨j1033, hj1033⟩ := wG_6 (cy := cy) (N := N) (T := T) (I := Ia1004) (Q := Q) (J := Ja1004) (hM.lg hjn1030).1 (hM.lg hjn1030).2
                refine vp_callSi (W.runV (As := []) (rest := []) ⟨hx, hb, hml, hown, hts⟩ (c_X6_many l dC dI cy w L K N T Q Ia1004 Ja1004 (5 * y1005.toNatClampNeg + n1030) hM hjn1030) (cwV 0 hts gX7_settle_X6_many rfl rfl rfl (by decide +kernel) ⟨Nat.le_of_ble_eq_true rfl, Nat.le_of_ble_eq_true rfl⟩) ⟨mb_blind, va_recv hK hP (ci := 6) (q0 := j1033) rfl hj1033, fun U hU hW => ⟨rfl, mb_pre hP hK hU hW⟩⟩ rfl rfl hl.1 rfl (lv_room (Nat.le_of_ble_eq_true rfl)) dX7_settle_61 ⟨Nat.le_of_ble_eq_true rfl, Nat.le_of_ble_eq_true rfl⟩) (fun r1032 hr1032 => ?_)
                obtain ⟨ha1034, hb1034, hc1034, hd1034, he1034, hf1034⟩ := hML (5 * y1005.toNatClampNeg + n1030) hjn1030
                have tr1032 : r1032.toInt = (Ia1004 (w (21 + (5 * y1005.toNatClampNeg + n1030))) 2).toInt - (Ia1004 (w (21 + (5 * y1005.toNatClampNeg + n1030))) 1).toInt := by rw [hr1032]; exact xsub (by omega) (by omega)
                refine lv_bipush (v := 60) hx hb dX7_settle_64 (by decide) ?_
                refine lv_icmp_lt (tgt := 72) hx hb dX7_settle_66 (by decide) (fun c1035 => ?_) (fun c1035 => ?_)
                · have kc1035 : r1032.toInt < 60 := by have h9 := c1035; rw [xk_lt, (show (60 : Int32).toInt = 60 by decide)] at h9; exact h9
                  refine lv_aload_n hx hb dX7_settle_72 rfl (lv_at hl 0 rfl) ?_
                  refine lv_aload_n hx hb dX7_settle_73 rfl (lv_at hl 2 rfl) ?_
                  obtain ⟨j1036, hj1036⟩ := wG_7 (cy := cy) (N := N) (T := T) (I := Ia1004) (Q := Q) (J := Ja1004) (hM.at 0 (by decide)) (hM.k 0 (by decide) rfl)
                  refine va_get (D := (dC, dI)) (ci := 7) (v := .ref (T (w 0) 4)) (C := RX7) (T := TX7) (N := 18) hx hb hts hi7 hown hK hP j1036 hj1036 rfl 4 (by decide) (hts (.fieldLink RX7 25 "TallyLogsModel" "epoch" "[I") (by decide +kernel)) (fun _ h9 => h9) rfl dX7_settle_74 ?_
                  refine W.eq (g2 := F0 m 77 ls [.ref (w 5), .ref (w (21 + (5 * y1005.toNatClampNeg + n1030)))]) (by rw [hM.t 4 (by decide)]) ?_
                  refine lv_iload_n hx hb dX7_settle_77 rfl (lv_at hl 1 rfl) ?_
                  obtain ⟨j1037, hj1037⟩ := wG_20 (cy := cy) (N := N) (T := T) (I := Ia1004) (Q := Q) (J := Ja1004) (hM.at 5 (by decide)) (hM.k 5 (by decide) rfl)
                  refine va_iald hx hb hK hP j1037 1 hj1037 rfl (hM.inN (n := 4) 5 (by decide) rfl rfl (xin_of hnn1004 (by have kc := c1006; simp only [xk_lt, xk_le, xk_0, xk_1, xk_2, xk_3, xk_4, xk_5, xk_6, xk_7, xk_8, xk_50] at kc; omega))) dX7_settle_78 ?_
                  refine lv_topi (fun x1038 ex1038 => ?_)
                  refine lv_aload_n hx hb dX7_settle_79 rfl (lv_at hl 2 rfl) ?_
                  obtain ⟨j1039, hj1039⟩ := wG_7 (cy := cy) (N := N) (T := T) (I := Ia1004) (Q := Q) (J := Ja1004) (hM.at 0 (by decide)) (hM.k 0 (by decide) rfl)
                  refine va_get (D := (dC, dI)) (ci := 7) (v := .ref (T (w 0) 11)) (C := RX7) (T := TX7) (N := 18) hx hb hts hi7 hown hK hP j1039 hj1039 rfl 11 (by decide) (hts (.fieldLink RX7 46 "TallyLogsModel" "endKind" "[I") (by decide +kernel)) (fun _ h9 => h9) rfl dX7_settle_80 ?_
                  refine W.eq (g2 := F0 m 83 ls [.ref (w 12), .int x1038, .ref (w (21 + (5 * y1005.toNatClampNeg + n1030)))]) (by rw [hM.t 11 (by decide)]) ?_
                  refine lv_iload_n hx hb dX7_settle_83 rfl (lv_at hl 3 rfl) ?_
                  obtain ⟨j1040, hj1040⟩ := wG_20 (cy := cy) (N := N) (T := T) (I := Ia1004) (Q := Q) (J := Ja1004) (hM.at 12 (by decide)) (hM.k 12 (by decide) rfl)
                  refine va_iald hx hb hK hP j1040 1 hj1040 rfl (hM.inN (n := 6) 12 (by decide) rfl rfl hin999) dX7_settle_84 ?_
                  refine lv_topi (fun x1041 ex1041 => ?_)
                  refine lv_iload_n hx hb dX7_settle_85 rfl (lv_at hl 3 rfl) ?_
                  refine lv_aload_n hx hb dX7_settle_86 rfl (lv_at hl 2 rfl) ?_
                  obtain ⟨j1042, hj1042⟩ := wG_7 (cy := cy) (N := N) (T := T) (I := Ia1004) (Q := Q) (J := Ja1004) (hM.at 0 (by decide)) (hM.k 0 (by decide) rfl)
                  refine va_get (D := (dC, dI)) (ci := 7) (v := .ref (T (w 0) 10)) (C := RX7) (T := TX7) (N := 18) hx hb hts hi7 hown hK hP j1042 hj1042 rfl 10 (by decide) (hts (.fieldLink RX7 43 "TallyLogsModel" "endGeneration" "[I") (by decide +kernel)) (fun _ h9 => h9) rfl dX7_settle_87 ?_
                  refine W.eq (g2 := F0 m 90 ls [.ref (w 11), .int xk, .int x1041, .int x1038, .ref (w (21 + (5 * y1005.toNatClampNeg + n1030)))]) (by rw [hM.t 10 (by decide)]) ?_
                  refine lv_iload_n hx hb dX7_settle_90 rfl (lv_at hl 3 rfl) ?_
                  obtain ⟨j1043, hj1043⟩ := wG_20 (cy := cy) (N := N) (T := T) (I := Ia1004) (Q := Q) (J := Ja1004) (hM.at 11 (by decide)) (hM.k 11 (by decide) rfl)
                  refine va_iald hx hb hK hP j1043 1 hj1043 rfl (hM.inN (n := 6) 11 (by decide) rfl rfl hin999) dX7_settle_91 ?_
                  refine lv_topi (fun x1044 ex1044 => ?_)
                  refine lv_iconst (v := (-1)) hx hb dX7_settle_92 (by decide) ?_
                  refine lv_iconst (v := 0) hx hb dX7_settle_93 (by decide) ?_
                  refine lv_iconst (v := 0) hx hb dX7_settle_94 (by decide) ?_
                  refine lv_iconst (v := 0) hx hb dX7_settle_95 (by decide) ?_
                  obtain ⟨j1045, hj1045⟩ := wG_6 (cy := cy) (N := N) (T := T) (I := Ia1004) (Q := Q) (J := Ja1004) (hM.lg hjn1030).1 (hM.lg hjn1030).2
                  have hFc := pfree hD hS hA
                  refine va_callv (va_runV (As := [.int x1038, .int x1041, .int xk, .int x1044, .int (-1), .int 0, .int 0, .int 0]) (rest := []) ⟨hx, hb, hml, hown, hts⟩ (c_X6_add l dC dI cy w L K N T Q Ia1004 Ja1004 H.size (5 * y1005.toNatClampNeg + n1030) x1038 x1041 xk x1044 (-1) 0 0 0 hM hjn1030 (by omega) (by omega) (by omega) (by omega)) (cwV 8 hts gX7_settle_X6_add rfl rfl rfl (by decide +kernel) ⟨Nat.le_of_ble_eq_true rfl, Nat.le_of_ble_eq_true rfl⟩) ⟨mw_blind, va_recv hK hP (ci := 6) (q0 := j1045) rfl hj1045, fun U hU hW => ⟨rfl, mw_pre hP hK hD hU hW⟩⟩ rfl rfl hl.1 rfl (lv_room (Nat.le_of_ble_eq_true rfl)) dX7_settle_96 ⟨Nat.le_of_ble_eq_true rfl, Nat.le_of_ble_eq_true rfl⟩) hS (fun q _ h => hFc q h) hFc (fun d9 t H1 locs ht hvm hw hB hz1 hk1 hS => ?_)
                  obtain ⟨I1046, J1046⟩ := d9
                  obtain ⟨hP, hK1, hD1⟩ := hB
                  rw [ht] at hP
                  have hD := hD1.weaken (fun _ _ _ h => hFc _ h)
                  generalize H1 = H at hP hS ⊢
                  have hP : va_P (dC, dI) vwCl (va_pl L (wF cy K N T I1046 Q J1046)) H := hP
                  have hD : va_D A (va_pl L (wF cy K N T I1046 Q J1046)) := hD
                  have hw1048 : LW w Ia1004 Ja1004 I1046 J1046 (5 * y1005.toNatClampNeg + n1030) _ _ := hw
                  have hR : RM w [] I J I1046 J1046 := hR.lw hM hjn1030 hw1048
                  have hMD : MD w J1046 := hMD.lw hM hjn1030 hw1048
                  have hMU : MU w I1046 := hMU.lw hM hjn1030 hw1048
                  have q1hw1048 : (I1046 (w (21 + (5 * y1005.toNatClampNeg + n1030))) 1).toInt = _ := hw1048.2.2.1
                  have q2hw1048 : (I1046 (w (21 + (5 * y1005.toNatClampNeg + n1030))) 2).toInt = _ := hw1048.2.2.2
                  have q3hw1048 : (I1046 (w (21 + (5 * y1005.toNatClampNeg + n1030))) 3).toInt = _ := congrArg Int32.toInt hw1048.f3
                  have q4hw1048 : (I1046 (w (21 + (5 * y1005.toNatClampNeg + n1030))) 4).toInt = _ := congrArg Int32.toInt hw1048.f4
                  have hML : ML w ((E + y1005.toInt) + 1) I1046 := hML.lw hM hjn1030 hw1048 (by omega) ⟨by omega, by omega, by omega, by omega, by omega, by omega⟩
                  refine lv_aload_n hx hb dX7_settle_99 rfl (lv_at hl 2 rfl) ?_
                  obtain ⟨j1049, hj1049⟩ := wG_7 (cy := cy) (N := N) (T := T) (I := I1046) (Q := Q) (J := J1046) (hM.at 0 (by decide)) (hM.k 0 (by decide) rfl)
                  refine va_get (D := (dC, dI)) (ci := 7) (v := .ref (T (w 0) 9)) (C := RX7) (T := TX7) (N := 18) hx hb hts hi7 hown hK hP j1049 hj1049 rfl 9 (by decide) (hts (.fieldLink RX7 40 "TallyLogsModel" "bound" "[I") (by decide +kernel)) (fun _ h9 => h9) rfl dX7_settle_100 ?_
                  refine W.eq (g2 := F0 m 103 ls [.ref (w 10)]) (by rw [hM.t 9 (by decide)]) ?_
                  refine lv_iload_n hx hb dX7_settle_103 rfl (lv_at hl 3 rfl) ?_
                  refine lv_dup2_11 hx hb dX7_settle_104 rfl rfl ?_
                  obtain ⟨j1050, hj1050⟩ := wG_20 (cy := cy) (N := N) (T := T) (I := I1046) (Q := Q) (J := J1046) (hM.at 10 (by decide)) (hM.k 10 (by decide) rfl)
                  refine va_iald hx hb hK hP j1050 1 hj1050 rfl (hM.inN (n := 6) 10 (by decide) rfl rfl hin999) dX7_settle_105 ?_
                  refine lv_topi (fun x1051 ex1051 => ?_)
                  refine lv_iconst (v := 1) hx hb dX7_settle_106 (by decide) ?_
                  refine lv_iload_n hx hb dX7_settle_107 rfl (lv_at hl 1 rfl) ?_
                  refine lv_ishl hx hb dX7_settle_108 ?_
                  refine lv_topi (fun v1052 ev1052 => ?_)
                  refine lv_iconst (v := (-1)) hx hb dX7_settle_109 (by decide) ?_
                  refine lv_ixor hx hb dX7_settle_110 ?_
                  refine lv_topi (fun v1053 ev1053 => ?_)
                  refine lv_iand hx hb dX7_settle_111 ?_
                  refine lv_topi (fun v1054 ev1054 => ?_)
                  obtain ⟨j1055, hj1055⟩ := wG_20 (cy := cy) (N := N) (T := T) (I := I1046) (Q := Q) (J := J1046) (hM.at 10 (by decide)) (hM.k 10 (by decide) rfl)
                  have hDo := hD
                  refine va_iast (x := v1054) hx hb hK hP hD hS j1055 1 hj1055 rfl (hM.inN (n := 6) 10 (by decide) rfl rfl hin999) dX7_settle_112 (fun H locs hP hD hS => ?_)
                  have hP := Eq.mp (congrArg (fun w => va_P (dC, dI) vwCl w H) (wS_20 hDo (hM.at 10 (by decide)) (hM.k 10 (by decide) rfl) hj1055)) hP
                  obtain ⟨J1056, eJ1056⟩ : ∃ z, z = va_up J1046 (w 10) (upd (J1046 (w 10)) xk.toNatClampNeg v1054) := ⟨_, rfl⟩
                  rw [← eJ1056] at hP
                  have hR : RM w [] I J I1046 J1056 := by rw [eJ1056]; exact hR.pj hM (by decide) (by decide)
                  have hMD : MD w J1056 := by rw [eJ1056]; exact hMD.pj hM (by decide) (by decide)
                  have hD : va_D A (va_pl L (wF cy K N T I1046 Q J1056)) := pD hDo
                  refine lv_aload_n hx hb dX7_settle_113 rfl (lv_at hl 2 rfl) ?_
                  refine lv_iload_n hx hb dX7_settle_114 rfl (lv_at hl 1 rfl) ?_
                  obtain ⟨j1057, hj1057⟩ := wG_7 (cy := cy) (N := N) (T := T) (I := I1046) (Q := Q) (J := J1056) (hM.at 0 (by decide)) (hM.k 0 (by decide) rfl)
                  have hFc := pfree hD hS hA
                  refine va_callv (va_runV (As := [.int y1005]) (rest := []) ⟨hx, hb, hml, hown, hts⟩ (c_X7_rise l dC dI cy w L K N T Q I1046 J1056 H.size y1005 hM (xin_of hnn1004 (by have kc := c1006; simp only [xk_lt, xk_le, xk_0, xk_1, xk_2, xk_3, xk_4, xk_5, xk_6, xk_7, xk_8, xk_50] at kc; omega)) (hMD _ (vp_lt (n := 4) (xin_of hnn1004 (by have kc := c1006; simp only [xk_lt, xk_le, xk_0, xk_1, xk_2, xk_3, xk_4, xk_5, xk_6, xk_7, xk_8, xk_50] at kc; omega))))) (cwV 1 hts gX7_settle_X7_rise rfl rfl rfl (by decide +kernel) ⟨Nat.le_of_ble_eq_true rfl, Nat.le_of_ble_eq_true rfl⟩) ⟨mw_blind, va_recv hK hP (ci := 7) (q0 := j1057) rfl hj1057, fun U hU hW => ⟨rfl, mw_pre hP hK hD hU hW⟩⟩ rfl rfl hl.1 rfl (lv_room (Nat.le_of_ble_eq_true rfl)) dX7_settle_115 ⟨Nat.le_of_ble_eq_true rfl, Nat.le_of_ble_eq_true rfl⟩) hS (fun q _ h => hFc q h) hFc (fun d9 t H1 locs ht hvm hw hB hz1 hk1 hS => ?_)
                  obtain ⟨I1058, J1058⟩ := d9
                  obtain ⟨hP, hK1, hD1⟩ := hB
                  rw [ht] at hP
                  have hD := hD1.weaken (fun _ _ _ h => hFc _ h)
                  generalize H1 = H at hP hS ⊢
                  have hP : va_P (dC, dI) vwCl (va_pl L (wF cy K N T I1058 Q J1058)) H := hP
                  have hD : va_D A (va_pl L (wF cy K N T I1058 Q J1058)) := hD
                  have hw1060 : RZ w I1046 J1056 I1058 J1058 y1005.toNatClampNeg := hw
                  have hR : RM w [] I J I1058 J1058 := hR.rz hM (vp_lt (n := 4) (xin_of hnn1004 (by have kc := c1006; simp only [xk_lt, xk_le, xk_0, xk_1, xk_2, xk_3, xk_4, xk_5, xk_6, xk_7, xk_8, xk_50] at kc; omega))) hw1060
                  have hMD : MD w J1058 := hMD.rz hw1060
                  have hMU : MU w I1058 := hMU.rz hM (vp_lt (n := 4) (xin_of hnn1004 (by have kc := c1006; simp only [xk_lt, xk_le, xk_0, xk_1, xk_2, xk_3, xk_4, xk_5, xk_6, xk_7, xk_8, xk_50] at kc; omega))) hw1060
                  have hML : ML w ((E + y1005.toInt) + 1) I1058 := hML.rz hM (vp_lt (n := 4) (xin_of hnn1004 (by have kc := c1006; simp only [xk_lt, xk_le, xk_0, xk_1, xk_2, xk_3, xk_4, xk_5, xk_6, xk_7, xk_8, xk_50] at kc; omega))) hw1060
                  obtain ⟨v1061, ev1061⟩ : ∃ y : Int32, y = y1005 + Int32.ofInt 1 := ⟨_, rfl⟩
                  refine lv_iinc (v := v1061) (lv' := [(2, .int v1061), (3, .ref (w (21 + (5 * y1005.toNatClampNeg + n1030)))), (0, .ref (w 0)), (1, .int xk)]) hx hb dX7_settle_118 hl (k := 1) rfl ev1061.symm (by decide) rfl (fun ls hl => ?_)
                  refine lv_goto (tgt := 29) hx hb dX7_settle_121 (by decide) ?_
                  have tv1061 : v1061.toInt = y1005.toInt + 1 := by rw [ev1061, show y1005 + Int32.ofInt 1 = y1005 + 1 from rfl]; exact xinc (y := (4 : Int32)) (by rw [xk_lt, xk_4]; omega)
                  exact ih1004 _ _ _ _ _ _ (by omega) (by omega) (by omega) hR (hML.mono (by omega)) hMD hMU hP hD hS (lv_sub hl [0, 2, 3] rfl)
                · have kc1035 : ¬ (r1032.toInt < 60) := by have h9 := c1035; rw [xk_lt, (show (60 : Int32).toInt = 60 by decide)] at h9; exact h9
                  refine lv_goto (tgt := 118) hx hb dX7_settle_69 (by decide) ?_
                  obtain ⟨v1062, ev1062⟩ : ∃ y : Int32, y = y1005 + Int32.ofInt 1 := ⟨_, rfl⟩
                  refine lv_iinc (v := v1062) (lv' := [(2, .int v1062), (3, .ref (w (21 + (5 * y1005.toNatClampNeg + n1030)))), (0, .ref (w 0)), (1, .int xk)]) hx hb dX7_settle_118 hl (k := 1) rfl ev1062.symm (by decide) rfl (fun ls hl => ?_)
                  refine lv_goto (tgt := 29) hx hb dX7_settle_121 (by decide) ?_
                  have tv1062 : v1062.toInt = y1005.toInt + 1 := by rw [ev1062, show y1005 + Int32.ofInt 1 = y1005 + 1 from rfl]; exact xinc (y := (4 : Int32)) (by rw [xk_lt, xk_4]; omega)
                  exact ih1004 _ _ _ _ _ _ (by omega) (by omega) (by omega) hR (hML.mono (by omega)) hMD hMU hP hD hS (lv_sub hl [0, 2, 3] rfl)
            · have kc1027 : v1026.toInt = 0 := by have h9 := c1027; rw [xk_eq, xk_0] at h9; exact h9
              refine lv_goto (tgt := 118) hx hb dX7_settle_47 (by decide) ?_
              obtain ⟨v1063, ev1063⟩ : ∃ y : Int32, y = y1005 + Int32.ofInt 1 := ⟨_, rfl⟩
              refine lv_iinc (v := v1063) (lv' := [(2, .int v1063), (0, .ref (w 0)), (1, .int xk)]) hx hb dX7_settle_118 hl (k := 0) rfl ev1063.symm (by decide) rfl (fun ls hl => ?_)
              refine lv_goto (tgt := 29) hx hb dX7_settle_121 (by decide) ?_
              have tv1063 : v1063.toInt = y1005.toInt + 1 := by rw [ev1063, show y1005 + Int32.ofInt 1 = y1005 + 1 from rfl]; exact xinc (y := (4 : Int32)) (by rw [xk_lt, xk_4]; omega)
              exact ih1004 _ _ _ _ _ _ (by omega) (by omega) (by omega) hR (hML.mono (by omega)) hMD hMU hP hD hS (lv_sub hl [0, 1, 2] rfl)
      exact hLP1004 _ _ _ _ _ _ _ (Nat.lt_succ_self _) (by decide) (by decide) hR (hML.mono (by rw [xk_0]; omega)) hMD hMU hP hD hS (lv_sub hl [0, 1, 2] rfl)
    · have kc1003 : ¬ (x1002.toInt = 2) := by have h9 := c1003; rw [xk_eq, xk_2] at h9; exact h9
      refine lv_bipush (v := (-2)) hx hb dX7_settle_24 (by decide) ?_
      exact W.iret (v := (-2)) hx hb hr (fun t ht hW => ⟨⟨(-2), (I, J), rfl, ⟨⟨hML.mono (by omega), hMD, hMU⟩, hR⟩, by rw [ht]; exact hP, va_K.moved hW.alike hK, hD⟩, hS.F ht⟩) hS.2.2 dX7_settle_26
  · refine lv_iconst (v := (-1)) hx hb dX7_settle_12 (by decide) ?_
    exact W.iret (v := (-1)) hx hb hr (fun t ht hW => ⟨⟨(-1), (I, J), rfl, ⟨⟨hML.mono (by omega), hMD, hMU⟩, hR⟩, by rw [ht]; exact hP, va_K.moved hW.alike hK, hD⟩, hS.F ht⟩) hS.2.2 dX7_settle_13
set_option maxHeartbeats 4000000 in
set_option maxRecDepth 100000 in
/-- crash -/
theorem c_X7_crash (l : Launch) (dC : Nat → ClassId) (dI : Nat → Nat → Nat) (cy : Nat → ClassId) (w : Nat → Nat) (L : List Nat) (K N : Nat → Nat) (T : Nat → Nat → Nat) (Q : Nat → Nat → Option Nat) (I J : Nat → Nat → Int32) (sz : Nat) (E : Int) (xn : Int32) (xk : Int32) (hM : MS w L K N T Q) (hI : MI w E I J) (hE : E ≤ 1000) : Met l yX7_crash wsX7_crash ({ frames := 4, cells := 0, slots := 0, locals := 99 }) (va_Pc [.ref (w 0), .int xn, .int xk] (mW dC dI cy L (wF cy K N T I Q J) sz)) (va_Qi (fun (r : Int32) (d : (Nat → Nat → Int32) × (Nat → Nat → Int32)) => MI w (E + 5) d.1 d.2 ∧ (∀ k, (k = 2 ∨ k = 8 ∨ k = 13 ∨ k = 14 ∨ k = 15) → d.2 (w k) = J (w k)) ∧ d.1 (w 0) 16 = sp_cu (I (w 0) 16) xn xk) (fun (d : (Nat → Nat → Int32) × (Nat → Nat → Int32)) t => va_P (dC, dI) vwCl (va_pl L (wF cy K N T d.1 Q d.2)) t.heap ∧ va_K (dC, dI) vwCl (mTy cy) t ∧ va_D (va_A (va_pl L (wF cy K N T I Q J)) sz) (va_pl L (wF cy K N T d.1 Q d.2))) (va_A (va_pl L (wF cy K N T I Q J)) sz)) 0 0 (va_A (va_pl L (wF cy K N T I Q J)) sz) := by
  refine Met.ofW (cc := cX7_crash) (maxL := 6) (ret := (some .int)) (by decide) rfl ?_
  intro p e s m args below meth c s₁ B hml hv
  obtain ⟨rfl, hsz, ⟨hP, hK⟩, hD0⟩ := hv
  have hx := B.exec
  have hb := B.bytes
  have hr := B.returns
  have hts := atoms_spec (ws := wsX7_crash) B.pre
  have hown : s.vm.findClass RX7 = some m.cls := findClass_of_methodNamed B.named
  have hlocks := B.notSynchronized
  have hi7 : ∀ w ∈ wsX70, w ∈ wsX7_crash := by decide +kernel
  have hi6 : ∀ w ∈ wsX60, w ∈ wsX7_crash := by decide +kernel
  have hl := lv_entry ([.ref (w 0), .int xn, .int xk]) (n := 6) (Nat.le_of_ble_eq_true rfl)
  rw [lg_entry_eq]
  generalize (lg_sl ([.ref (w 0), .int xn, .int xk]) ++ List.replicate (6 - (lg_sl ([.ref (w 0), .int xn, .int xk])).length) Slot.unset).toArray = ls at hl ⊢
  have hl : lv_has ls 6 [(0, .ref (w 0)), (1, .int xn), (2, .int xk)] := hl
  subst hsz
  have hD := hD0.self (sz := s.heap.size)
  generalize hAe : va_A (va_pl L (wF cy K N T I Q J)) s.heap.size = A at hD ⊢
  have hA : ∀ q : Nat, s.heap.size ≤ q → A q := fun q h => by rw [← hAe]; exact Or.inr h
  have hS : va_S A s.heap s.heap [] := va_S.rf
  have hR : RM w [] I J I J := RM.rf
  obtain ⟨hML, hMD, hMU⟩ := hI
  refine lv_aload_n hx hb dX7_crash_0 rfl (lv_at hl 0 rfl) ?_
  refine lv_iload_n hx hb dX7_crash_1 rfl (lv_at hl 1 rfl) ?_
  obtain ⟨j1065, hj1065⟩ := wG_7 (cy := cy) (N := N) (T := T) (I := I) (Q := Q) (J := J) (hM.at 0 (by decide)) (hM.k 0 (by decide) rfl)
  refine vp_callSi (W.runV (As := [.int xn]) (rest := []) ⟨hx, hb, hml, hown, hts⟩ (c_X7_isUp l dC dI cy w L K N T Q I J xn hM) (cwV 1 hts gX7_crash_X7_isUp rfl rfl rfl (by decide +kernel) ⟨Nat.le_of_ble_eq_true rfl, Nat.le_of_ble_eq_true rfl⟩) ⟨mb_blind, va_recv hK hP (ci := 7) (q0 := j1065) rfl hj1065, fun U hU hW => ⟨rfl, mb_pre hP hK hU hW⟩⟩ rfl rfl hl.1 rfl (lv_room (Nat.le_of_ble_eq_true rfl)) dX7_crash_2 ⟨Nat.le_of_ble_eq_true rfl, Nat.le_of_ble_eq_true rfl⟩) (fun r1064 hr1064 => ?_)
  refine lv_if_eq (tgt := 12) hx hb dX7_crash_5 (by decide) (fun c1066 => ?_) (fun c1066 => ?_)
  · have kc1066 : r1064.toInt = 0 := by have h9 := c1066; rw [xk_eq, xk_0] at h9; exact h9
    refine lv_iconst (v := (-1)) hx hb dX7_crash_12 (by decide) ?_
    exact W.iret (v := (-1)) hx hb hr (fun t ht hW => ⟨⟨(-1), (I, J), rfl, ⟨⟨hML.mono (by omega), hMD, hMU⟩, fun k hk => rfl, (by show _ = _; unfold sp_cu; rw [if_pos (hr1064.symm.trans c1066)])⟩, by rw [ht]; exact hP, va_K.moved hW.alike hK, hD⟩, hS.F ht⟩) hS.2.2 dX7_crash_13
  · have hup1067 := sp_iu1 (by rw [← hr1064]; exact c1066)
    have kc1066 : ¬ (r1064.toInt = 0) := by have h9 := c1066; rw [xk_eq, xk_0] at h9; exact h9
    refine lv_iload_n hx hb dX7_crash_8 rfl (lv_at hl 2 rfl) ?_
    refine lv_if_ge (tgt := 14) hx hb dX7_crash_9 (by decide) (fun c1068 => ?_) (fun c1068 => ?_)
    · have kc1068 : 0 ≤ xk.toInt := by have h9 := c1068; rw [xk_le, xk_0] at h9; exact h9
      refine lv_aload_n hx hb dX7_crash_14 rfl (lv_at hl 0 rfl) ?_
      refine lv_dup hx hb dX7_crash_15 rfl ?_
      obtain ⟨j1069, hj1069⟩ := wG_7 (cy := cy) (N := N) (T := T) (I := I) (Q := Q) (J := J) (hM.at 0 (by decide)) (hM.k 0 (by decide) rfl)
      refine va_get (D := (dC, dI)) (ci := 7) (v := .int (I (w 0) 16)) (C := RX7) (T := TX7) (N := 18) hx hb hts hi7 hown hK hP j1069 hj1069 rfl 16 (by decide) (hts (.fieldLink RX7 61 "TallyLogsModel" "up" "I") (by decide +kernel)) (fun _ h9 => h9) rfl dX7_crash_16 ?_
      refine lv_topi (fun x1070 ex1070 => ?_)
      have tx1070 : x1070.toInt = (I (w 0) 16).toInt := congrArg Int32.toInt ex1070
      refine lv_iconst (v := 1) hx hb dX7_crash_19 (by decide) ?_
      refine lv_iload_n hx hb dX7_crash_20 rfl (lv_at hl 1 rfl) ?_
      refine lv_ishl hx hb dX7_crash_21 ?_
      refine lv_topi (fun v1071 ev1071 => ?_)
      refine lv_iconst (v := (-1)) hx hb dX7_crash_22 (by decide) ?_
      refine lv_ixor hx hb dX7_crash_23 ?_
      refine lv_topi (fun v1072 ev1072 => ?_)
      refine lv_iand hx hb dX7_crash_24 ?_
      refine lv_topi (fun v1073 ev1073 => ?_)
      obtain ⟨j1074, hj1074⟩ := wG_7 (cy := cy) (N := N) (T := T) (I := I) (Q := Q) (J := J) (hM.at 0 (by decide)) (hM.k 0 (by decide) rfl)
      have hDo := hD
      refine va_put (D := (dC, dI)) (ci := 7) (v := .int v1073) (ty := .int) (C := RX7) (T := TX7) (N := 18) hx hb hts hi7 tyX7 tyX7_ok nmX7 hown hK hP hD hS j1074 hj1074 rfl 16 (by decide) (hts (.fieldLink RX7 61 "TallyLogsModel" "up" "I") (by decide +kernel)) (fun _ h9 => h9) rfl (by decide +kernel) rfl rfl (Nat.le_of_ble_eq_true rfl) dX7_crash_25 (fun H locs hP hD hS => ?_)
      have hP := Eq.mp (congrArg (fun w => va_P (dC, dI) vwCl w H) (wP_7_16 (x := v1073) hDo (hM.at 0 (by decide)) (hM.k 0 (by decide) rfl) hj1074)) hP
      obtain ⟨I1075, eI1075⟩ : ∃ z, z = p2 I (w 0) 16 v1073 := ⟨_, rfl⟩
      rw [← eI1075] at hP
      have hD : va_D A (va_pl L (wF cy K N T I1075 Q J)) := pD hDo
      have hMU : MU w I1075 := by
        obtain ⟨u9, hu9, eu9⟩ := (show ∃ u : Nat, u < 32 ∧ v1073 = nI u by rw [ev1073, ex1070]; exact xu_and hMU)
        exact ⟨u9, hu9, by rw [eI1075, p2_at]; exact eu9⟩
      have hR : RM w [] I1075 J I1075 J := RM.rf
      have hML : ML w E I1075 := by rw [eI1075]; exact hML.pm hM
      refine lv_iconst (v := 0) hx hb dX7_crash_28 (by decide) ?_
      refine lv_istore_n (lv' := [(3, .int 0), (0, .ref (w 0)), (1, .int xn), (2, .int xk)]) hx hb dX7_crash_29 rfl hl (by decide) rfl (fun ls hl => ?_)
      refine lv_iconst (v := 0) hx hb dX7_crash_30 (by decide) ?_
      refine lv_istore (lv' := [(4, .int 0), (3, .int 0), (0, .ref (w 0)), (1, .int xn), (2, .int xk)]) hx hb dX7_crash_31 hl (by decide) rfl (fun ls hl => ?_)
      refine wq_gen (fun Qz hQz => ?_)
      have hLP1076 : ∀ (n : Nat) (y1077 y1078 : Int32) (Ia1076 Ja1076 : Nat → Nat → Int32) (H : Heap) (locs : List Loc) (ls : Array Slot), (4 - y1077.toInt).toNat < n → 0 ≤ y1077.toInt → (True) → RM w [] I1075 J Ia1076 Ja1076 → ML w E Ia1076 → MD w Ja1076 → MU w Ia1076 →  va_P (dC, dI) vwCl (va_pl L (wF cy K N T Ia1076 Q Ja1076)) H → va_D A (va_pl L (wF cy K N T Ia1076 Q Ja1076)) → va_S A s.heap H locs → lv_has ls 6 [(4, .int y1077), (3, .int y1078), (0, .ref (w 0)), (1, .int xn), (2, .int xk)] → W p l e (headSpec wsX7_crash ({ frames := 4, cells := 0, slots := 0, locals := 99 })).room s m ([.ref (w 0), .int xn, .int xk] : List Value).toArray below meth c H locs 0 0 Qz (F0 m 33 ls []) := by
        intro n
        induction n with
        | zero => intro y1077 y1078 Ia1076 Ja1076 H locs ls hms; exact absurd hms (Nat.not_lt_zero _)
        | succ n ih1076 =>
          intro y1077 y1078 Ia1076 Ja1076 H locs ls hms hnn1076 hiv1076 hR hML hMD hMU hP hD hS hl
          refine lv_iload hx hb dX7_crash_33 (lv_at hl 0 rfl) ?_
          refine lv_iconst (v := 4) hx hb dX7_crash_35 (by decide) ?_
          refine lv_icmp_ge (tgt := 195) hx hb dX7_crash_36 (by decide) (fun c1079 => ?_) (fun c1079 => ?_)
          · have kc1079 : 4 ≤ y1077.toInt := by have h9 := c1079; rw [xk_le, xk_4] at h9; exact h9
            refine lv_iload_n hx hb dX7_crash_195 rfl (lv_at hl 1 rfl) ?_
            rw [hQz]
            exact W.iret (v := y1078) hx hb hr (fun t ht hW => ⟨⟨y1078, (Ia1076, Ja1076), rfl, ⟨⟨hML.mono (by omega), hMD, hMU⟩, fun k hk => hR.2 k hk (by simp), (by show Ia1076 (w 0) 16 = _; rw [hR.1, eI1075, p2_at, ev1073, ex1070, ev1072, ev1071]; unfold sp_cu; rw [if_neg (fun q => c1066 (hr1064.trans q)), if_neg (by rw [xk_lt, xk_0]; omega)])⟩, by rw [ht]; exact hP, va_K.moved hW.alike hK, hD⟩, hS.F ht⟩) hS.2.2 dX7_crash_196
          · have kc1079 : ¬ (4 ≤ y1077.toInt) := by have h9 := c1079; rw [xk_le, xk_4] at h9; exact h9
            refine lv_aload_n hx hb dX7_crash_39 rfl (lv_at hl 2 rfl) ?_
            obtain ⟨j1080, hj1080⟩ := wG_7 (cy := cy) (N := N) (T := T) (I := Ia1076) (Q := Q) (J := Ja1076) (hM.at 0 (by decide)) (hM.k 0 (by decide) rfl)
            refine va_get (D := (dC, dI)) (ci := 7) (v := .ref (T (w 0) 1)) (C := RX7) (T := TX7) (N := 18) hx hb hts hi7 hown hK hP j1080 hj1080 rfl 1 (by decide) (hts (.fieldLink RX7 14 "TallyLogsModel" "there" "[Z") (by decide +kernel)) (fun _ h9 => h9) rfl dX7_crash_40 ?_
            refine W.eq (g2 := F0 m 43 ls [.ref (w 2)]) (by rw [hM.t 1 (by decide)]) ?_
            refine lv_iload hx hb dX7_crash_43 (lv_at hl 0 rfl) ?_
            obtain ⟨j1081, hj1081⟩ := wG_21 (cy := cy) (N := N) (T := T) (I := Ia1076) (Q := Q) (J := Ja1076) (hM.at 2 (by decide)) (hM.k 2 (by decide) rfl)
            refine va_zald hx hb hK hP j1081 0 hj1081 rfl (xin_of hnn1076 (by have kc := c1079; simp only [xk_lt, xk_le, xk_0, xk_1, xk_2, xk_3, xk_4, xk_5, xk_6, xk_7, xk_8, xk_50] at kc; omega)) dX7_crash_45 ?_
            refine lv_topi (fun x1082 ex1082 => ?_)
            refine lv_if_ne (tgt := 52) hx hb dX7_crash_46 (by decide) (fun c1083 => ?_) (fun c1083 => ?_)
            · have kc1083 : ¬ (x1082.toInt = 0) := by have h9 := c1083; rw [xk_eq, xk_0] at h9; exact h9
              refine lv_aload_n hx hb dX7_crash_52 rfl (lv_at hl 2 rfl) ?_
              obtain ⟨j1084, hj1084⟩ := wG_7 (cy := cy) (N := N) (T := T) (I := Ia1076) (Q := Q) (J := Ja1076) (hM.at 0 (by decide)) (hM.k 0 (by decide) rfl)
              refine va_get (D := (dC, dI)) (ci := 7) (v := .ref (T (w 0) 2)) (C := RX7) (T := TX7) (N := 18) hx hb hts hi7 hown hK hP j1084 hj1084 rfl 2 (by decide) (hts (.fieldLink RX7 18 "TallyLogsModel" "replicas" "[I") (by decide +kernel)) (fun _ h9 => h9) rfl dX7_crash_53 ?_
              refine W.eq (g2 := F0 m 56 ls [.ref (w 3)]) (by rw [hM.t 2 (by decide)]) ?_
              refine lv_iload hx hb dX7_crash_56 (lv_at hl 0 rfl) ?_
              obtain ⟨j1085, hj1085⟩ := wG_20 (cy := cy) (N := N) (T := T) (I := Ia1076) (Q := Q) (J := Ja1076) (hM.at 3 (by decide)) (hM.k 3 (by decide) rfl)
              refine va_iald hx hb hK hP j1085 1 hj1085 rfl (hM.inN (n := 4) 3 (by decide) rfl rfl (xin_of hnn1076 (by have kc := c1079; simp only [xk_lt, xk_le, xk_0, xk_1, xk_2, xk_3, xk_4, xk_5, xk_6, xk_7, xk_8, xk_50] at kc; omega))) dX7_crash_58 ?_
              refine lv_topi (fun x1086 ex1086 => ?_)
              refine lv_iload_n hx hb dX7_crash_59 rfl (lv_at hl 3 rfl) ?_
              refine lv_ishr hx hb dX7_crash_60 ?_
              refine lv_topi (fun v1087 ev1087 => ?_)
              refine lv_iconst (v := 1) hx hb dX7_crash_61 (by decide) ?_
              refine lv_iand hx hb dX7_crash_62 ?_
              refine lv_topi (fun v1088 ev1088 => ?_)
              refine lv_iconst (v := 1) hx hb dX7_crash_63 (by decide) ?_
              refine lv_icmp_ne (tgt := 176) hx hb dX7_crash_64 (by decide) (fun c1089 => ?_) (fun c1089 => ?_)
              · have kc1089 : ¬ (v1088.toInt = 1) := by have h9 := c1089; rw [xk_eq, xk_1] at h9; exact h9
                refine lv_aload_n hx hb dX7_crash_176 rfl (lv_at hl 2 rfl) ?_
                obtain ⟨j1090, hj1090⟩ := wG_7 (cy := cy) (N := N) (T := T) (I := Ia1076) (Q := Q) (J := Ja1076) (hM.at 0 (by decide)) (hM.k 0 (by decide) rfl)
                refine va_get (D := (dC, dI)) (ci := 7) (v := .ref (T (w 0) 3)) (C := RX7) (T := TX7) (N := 18) hx hb hts hi7 hown hK hP j1090 hj1090 rfl 3 (by decide) (hts (.fieldLink RX7 22 "TallyLogsModel" "leader" "[I") (by decide +kernel)) (fun _ h9 => h9) rfl dX7_crash_177 ?_
                refine W.eq (g2 := F0 m 180 ls [.ref (w 4)]) (by rw [hM.t 3 (by decide)]) ?_
                refine lv_iload hx hb dX7_crash_180 (lv_at hl 0 rfl) ?_
                obtain ⟨j1091, hj1091⟩ := wG_20 (cy := cy) (N := N) (T := T) (I := Ia1076) (Q := Q) (J := Ja1076) (hM.at 4 (by decide)) (hM.k 4 (by decide) rfl)
                refine va_iald hx hb hK hP j1091 1 hj1091 rfl (hM.inN (n := 4) 4 (by decide) rfl rfl (xin_of hnn1076 (by have kc := c1079; simp only [xk_lt, xk_le, xk_0, xk_1, xk_2, xk_3, xk_4, xk_5, xk_6, xk_7, xk_8, xk_50] at kc; omega))) dX7_crash_182 ?_
                refine lv_topi (fun x1092 ex1092 => ?_)
                refine lv_if_ge (tgt := 189) hx hb dX7_crash_183 (by decide) (fun c1093 => ?_) (fun c1093 => ?_)
                · have kc1093 : 0 ≤ x1092.toInt := by have h9 := c1093; rw [xk_le, xk_0] at h9; exact h9
                  obtain ⟨v1094, ev1094⟩ : ∃ y : Int32, y = y1077 + Int32.ofInt 1 := ⟨_, rfl⟩
                  refine lv_iinc (v := v1094) (lv' := [(4, .int v1094), (3, .int y1078), (0, .ref (w 0)), (1, .int xn), (2, .int xk)]) hx hb dX7_crash_189 hl (k := 0) rfl ev1094.symm (by decide) rfl (fun ls hl => ?_)
                  refine lv_goto (tgt := 33) hx hb dX7_crash_192 (by decide) ?_
                  have tv1094 : v1094.toInt = y1077.toInt + 1 := by rw [ev1094, show y1077 + Int32.ofInt 1 = y1077 + 1 from rfl]; exact xinc (y := (4 : Int32)) (by rw [xk_lt, xk_4]; omega)
                  exact ih1076 _ _ _ _ _ _ _ (by omega) (by omega) (trivial) hR (hML.mono (by omega)) hMD hMU hP hD hS (lv_sub hl [0, 1, 2, 3, 4] rfl)
                · have kc1093 : ¬ (0 ≤ x1092.toInt) := by have h9 := c1093; rw [xk_le, xk_0] at h9; exact h9
                  obtain ⟨v1095, ev1095⟩ : ∃ y : Int32, y = y1078 + Int32.ofInt 1 := ⟨_, rfl⟩
                  refine lv_iinc (v := v1095) (lv' := [(3, .int v1095), (4, .int y1077), (0, .ref (w 0)), (1, .int xn), (2, .int xk)]) hx hb dX7_crash_186 hl (k := 1) rfl ev1095.symm (by decide) rfl (fun ls hl => ?_)
                  obtain ⟨v1096, ev1096⟩ : ∃ y : Int32, y = y1077 + Int32.ofInt 1 := ⟨_, rfl⟩
                  refine lv_iinc (v := v1096) (lv' := [(4, .int v1096), (3, .int v1095), (0, .ref (w 0)), (1, .int xn), (2, .int xk)]) hx hb dX7_crash_189 hl (k := 1) rfl ev1096.symm (by decide) rfl (fun ls hl => ?_)
                  refine lv_goto (tgt := 33) hx hb dX7_crash_192 (by decide) ?_
                  have tv1096 : v1096.toInt = y1077.toInt + 1 := by rw [ev1096, show y1077 + Int32.ofInt 1 = y1077 + 1 from rfl]; exact xinc (y := (4 : Int32)) (by rw [xk_lt, xk_4]; omega)
                  exact ih1076 _ _ _ _ _ _ _ (by omega) (by omega) (trivial) hR (hML.mono (by omega)) hMD hMU hP hD hS (lv_sub hl [0, 1, 2, 3, 4] rfl)
              · have kc1089 : v1088.toInt = 1 := by have h9 := c1089; rw [xk_eq, xk_1] at h9; exact h9
                refine lv_aload_n hx hb dX7_crash_67 rfl (lv_at hl 2 rfl) ?_
                obtain ⟨j1097, hj1097⟩ := wG_7 (cy := cy) (N := N) (T := T) (I := Ia1076) (Q := Q) (J := Ja1076) (hM.at 0 (by decide)) (hM.k 0 (by decide) rfl)
                refine va_get (D := (dC, dI)) (ci := 7) (v := .ref (T (w 0) 0)) (C := RX7) (T := TX7) (N := 18) hx hb hts hi7 hown hK hP j1097 hj1097 rfl 0 (by decide) (hts (.fieldLink RX7 11 "TallyLogsModel" "log" "[[LTallyLogsModel$Log;") (by decide +kernel)) (fun _ h9 => h9) rfl dX7_crash_68 ?_
                refine W.eq (g2 := F0 m 71 ls [.ref (w 1)]) (by rw [hM.t 0 (by decide)]) ?_
                refine lv_iload hx hb dX7_crash_71 (lv_at hl 0 rfl) ?_
                obtain ⟨j1098, hj1098⟩ := wG_22 (cy := cy) (N := N) (T := T) (I := Ia1076) (Q := Q) (J := Ja1076) (hM.at 1 (by decide)) (hM.k 1 (by decide) rfl)
                refine xg_aldg hx hb hK hP j1098 2 hj1098 rfl (xin_of hnn1076 (by have kc := c1079; simp only [xk_lt, xk_le, xk_0, xk_1, xk_2, xk_3, xk_4, xk_5, xk_6, xk_7, xk_8, xk_50] at kc; omega)) dX7_crash_73 ?_
                refine W.eq (g2 := F0 m 74 ls [.ref (w (17 + y1077.toNatClampNeg))]) (by rw [hM.qo (vp_lt (n := 4) (xin_of hnn1076 (by have kc := c1079; simp only [xk_lt, xk_le, xk_0, xk_1, xk_2, xk_3, xk_4, xk_5, xk_6, xk_7, xk_8, xk_50] at kc; omega)))]; rfl) ?_
                refine lv_iload_n hx hb dX7_crash_74 rfl (lv_at hl 3 rfl) ?_
                obtain ⟨j1099, hj1099⟩ := wG_23 (cy := cy) (N := N) (T := T) (I := Ia1076) (Q := Q) (J := Ja1076) (hM.row (vp_lt (n := 4) (xin_of hnn1076 (by have kc := c1079; simp only [xk_lt, xk_le, xk_0, xk_1, xk_2, xk_3, xk_4, xk_5, xk_6, xk_7, xk_8, xk_50] at kc; omega)))).1 (hM.row (vp_lt (n := 4) (xin_of hnn1076 (by have kc := c1079; simp only [xk_lt, xk_le, xk_0, xk_1, xk_2, xk_3, xk_4, xk_5, xk_6, xk_7, xk_8, xk_50] at kc; omega)))).2
                refine va_aldq hx hb hK hP j1099 3 hj1099 rfl hup1067.1 dX7_crash_75 ?_
                have hjl1100 : (5 * y1077.toNatClampNeg + xn.toNatClampNeg) < 20 := by have h1 := (vp_lt (n := 4) (xin_of hnn1076 (by have kc := c1079; simp only [xk_lt, xk_le, xk_0, xk_1, xk_2, xk_3, xk_4, xk_5, xk_6, xk_7, xk_8, xk_50] at kc; omega))); have h2 := (vp_lt (n := 5) hup1067.1); omega
                refine W.eq (g2 := F0 m 76 ls [.ref (w (21 + (5 * y1077.toNatClampNeg + xn.toNatClampNeg)))]) (by rw [hM.qr (vp_lt (n := 4) (xin_of hnn1076 (by have kc := c1079; simp only [xk_lt, xk_le, xk_0, xk_1, xk_2, xk_3, xk_4, xk_5, xk_6, xk_7, xk_8, xk_50] at kc; omega))) (vp_lt (n := 5) hup1067.1)]; rfl) ?_
                obtain ⟨ha1101, hb1101, hc1101, hd1101, he1101, hf1101⟩ := hML (5 * y1077.toNatClampNeg + xn.toNatClampNeg) hjl1100
                refine lv_astore (lv' := [(5, .ref (w (21 + (5 * y1077.toNatClampNeg + xn.toNatClampNeg)))), (4, .int y1077), (3, .int y1078), (0, .ref (w 0)), (1, .int xn), (2, .int xk)]) hx hb dX7_crash_76 hl (by decide) rfl (fun ls hl => ?_)
                refine lv_aload hx hb dX7_crash_78 (lv_at hl 0 rfl) ?_
                refine lv_aload hx hb dX7_crash_80 (lv_at hl 0 rfl) ?_
                obtain ⟨j1102, hj1102⟩ := wG_6 (cy := cy) (N := N) (T := T) (I := Ia1076) (Q := Q) (J := Ja1076) (hM.lg hjl1100).1 (hM.lg hjl1100).2
                refine va_get (D := (dC, dI)) (ci := 6) (v := .int (Ia1076 (w (21 + (5 * y1077.toNatClampNeg + xn.toNatClampNeg))) 2)) (C := RX6) (T := TX6) (N := 7) hx hb hts hi6 hown hK hP j1102 hj1102 rfl 2 (by decide) (hts (.fieldLink RX7 89 "TallyLogsModel$Log" "end" "I") (by decide +kernel)) (fun _ h9 => h9) rfl dX7_crash_82 ?_
                refine lv_topi (fun x1103 ex1103 => ?_)
                have tx1103 : x1103.toInt = (Ia1076 (w (21 + (5 * y1077.toNatClampNeg + xn.toNatClampNeg))) 2).toInt := congrArg Int32.toInt ex1103
                refine lv_i2l (v := x1103.toInt64) hx hb dX7_crash_85 rfl ?_
                refine lv_aload hx hb dX7_crash_86 (lv_at hl 0 rfl) ?_
                obtain ⟨j1104, hj1104⟩ := wG_6 (cy := cy) (N := N) (T := T) (I := Ia1076) (Q := Q) (J := Ja1076) (hM.lg hjl1100).1 (hM.lg hjl1100).2
                refine va_get (D := (dC, dI)) (ci := 6) (v := .int (Ia1076 (w (21 + (5 * y1077.toNatClampNeg + xn.toNatClampNeg))) 4)) (C := RX6) (T := TX6) (N := 7) hx hb hts hi6 hown hK hP j1104 hj1104 rfl 4 (by decide) (hts (.fieldLink RX7 158 "TallyLogsModel$Log" "flushed" "I") (by decide +kernel)) (fun _ h9 => h9) rfl dX7_crash_88 ?_
                refine lv_topi (fun x1105 ex1105 => ?_)
                have tx1105 : x1105.toInt = (Ia1076 (w (21 + (5 * y1077.toNatClampNeg + xn.toNatClampNeg))) 4).toInt := congrArg Int32.toInt ex1105
                refine lv_i2l (v := x1105.toInt64) hx hb dX7_crash_91 rfl ?_
                refine lv_iload_n hx hb dX7_crash_92 rfl (lv_at hl 5 rfl) ?_
                refine lv_i2l (v := xk.toInt64) hx hb dX7_crash_93 rfl ?_
                refine t_ladd (v := x1105.toInt64 + xk.toInt64) hx hb dX7_crash_94 rfl ?_
                refine va_mmin_long hx hb (by rw [hml]; exact hl.1.symm) hown (hts (.methodLink RX7 180 Lib.MathLoose.min_long.x) (by decide +kernel)) (hts (.static Lib.MathLoose.min_long.x) (by decide +kernel)) (hts (.initialized "java/lang/Math") (by decide +kernel)) (hts _ (List.mem_of_getElem? (i := 10) rfl)) (Nat.le_of_ble_eq_true rfl) (Nat.le_of_ble_eq_true rfl) (Nat.le_of_ble_eq_true rfl) (Nat.le_of_ble_eq_true rfl) dX7_crash_95 ?_
                refine t_l2i hx hb dX7_crash_98 rfl ?_
                refine lv_topi (fun v1106 ev1106 => ?_)
                have tv1106 : v1106.toInt = min x1103.toInt (x1105.toInt + xk.toInt) := by rw [ev1106]; exact xminl (by omega) (by omega)
                obtain ⟨j1107, hj1107⟩ := wG_6 (cy := cy) (N := N) (T := T) (I := Ia1076) (Q := Q) (J := Ja1076) (hM.lg hjl1100).1 (hM.lg hjl1100).2
                have hDo := hD
                refine va_put (D := (dC, dI)) (ci := 6) (v := .int v1106) (ty := .int) (C := RX6) (T := TX6) (N := 7) hx hb hts hi6 tyX6 tyX6_ok nmX6 hown hK hP hD hS j1107 hj1107 rfl 2 (by decide) (hts (.fieldLink RX7 89 "TallyLogsModel$Log" "end" "I") (by decide +kernel)) (fun _ h9 => h9) rfl (by decide +kernel) rfl rfl (Nat.le_of_ble_eq_true rfl) dX7_crash_99 (fun H locs hP hD hS => ?_)
                have hP := Eq.mp (congrArg (fun w => va_P (dC, dI) vwCl w H) (wP_6_2 (x := v1106) hDo (hM.lg hjl1100).1 (hM.lg hjl1100).2 hj1107)) hP
                obtain ⟨I1108, eI1108⟩ : ∃ z, z = p2 Ia1076 (w (21 + (5 * y1077.toNatClampNeg + xn.toNatClampNeg))) 2 v1106 := ⟨_, rfl⟩
                rw [← eI1108] at hP
                have hD : va_D A (va_pl L (wF cy K N T I1108 Q Ja1076)) := pD hDo
                have hR : RM w [] I1075 J I1108 Ja1076 := by rw [eI1108]; exact hR.pl hM hjl1100
                have hMU : MU w I1108 := by rw [eI1108]; exact hMU.pl hM hjl1100
                refine lv_aload hx hb dX7_crash_102 (lv_at hl 0 rfl) ?_
                refine lv_aload hx hb dX7_crash_104 (lv_at hl 0 rfl) ?_
                obtain ⟨j1109, hj1109⟩ := wG_6 (cy := cy) (N := N) (T := T) (I := I1108) (Q := Q) (J := Ja1076) (hM.lg hjl1100).1 (hM.lg hjl1100).2
                refine va_get (D := (dC, dI)) (ci := 6) (v := .int (I1108 (w (21 + (5 * y1077.toNatClampNeg + xn.toNatClampNeg))) 3)) (C := RX6) (T := TX6) (N := 7) hx hb hts hi6 hown hK hP j1109 hj1109 rfl 3 (by decide) (hts (.fieldLink RX7 109 "TallyLogsModel$Log" "high" "I") (by decide +kernel)) (fun _ h9 => h9) rfl dX7_crash_106 ?_
                refine lv_topi (fun x1110 ex1110 => ?_)
                have ex1110 : x1110 = Ia1076 (w (21 + (5 * y1077.toNatClampNeg + xn.toNatClampNeg))) 3 := by rw [ex1110, eI1108, p2_ne _ _ (fun q => absurd q.2 (by decide))]
                have tx1110 : x1110.toInt = (Ia1076 (w (21 + (5 * y1077.toNatClampNeg + xn.toNatClampNeg))) 3).toInt := congrArg Int32.toInt ex1110
                refine lv_aload hx hb dX7_crash_109 (lv_at hl 0 rfl) ?_
                obtain ⟨j1111, hj1111⟩ := wG_6 (cy := cy) (N := N) (T := T) (I := I1108) (Q := Q) (J := Ja1076) (hM.lg hjl1100).1 (hM.lg hjl1100).2
                refine va_get (D := (dC, dI)) (ci := 6) (v := .int (I1108 (w (21 + (5 * y1077.toNatClampNeg + xn.toNatClampNeg))) 2)) (C := RX6) (T := TX6) (N := 7) hx hb hts hi6 hown hK hP j1111 hj1111 rfl 2 (by decide) (hts (.fieldLink RX7 89 "TallyLogsModel$Log" "end" "I") (by decide +kernel)) (fun _ h9 => h9) rfl dX7_crash_111 ?_
                refine lv_topi (fun x1112 ex1112 => ?_)
                have ex1112 : x1112 = v1106 := by rw [ex1112, eI1108, p2_at]
                have tx1112 : x1112.toInt = v1106.toInt := congrArg Int32.toInt ex1112
                refine va_mmin hx hb (by rw [hml]; exact hl.1.symm) hown (hts (.methodLink RX7 105 Lib.Math.min.name) (by decide +kernel)) (hts (.static Lib.Math.min.name) (by decide +kernel)) (hts (.initialized "java/lang/Math") (by decide +kernel)) (hts _ (List.mem_of_getElem? (i := 14) rfl)) (Nat.le_of_ble_eq_true rfl) (Nat.le_of_ble_eq_true rfl) (Nat.le_of_ble_eq_true rfl) (Nat.le_of_ble_eq_true rfl) dX7_crash_114 ?_
                refine lv_topi (fun z1113 ez1113 => ?_)
                have tz1113 : z1113.toInt = min x1110.toInt x1112.toInt := (xmin_t ez1113)
                obtain ⟨j1114, hj1114⟩ := wG_6 (cy := cy) (N := N) (T := T) (I := I1108) (Q := Q) (J := Ja1076) (hM.lg hjl1100).1 (hM.lg hjl1100).2
                have hDo := hD
                refine va_put (D := (dC, dI)) (ci := 6) (v := .int z1113) (ty := .int) (C := RX6) (T := TX6) (N := 7) hx hb hts hi6 tyX6 tyX6_ok nmX6 hown hK hP hD hS j1114 hj1114 rfl 3 (by decide) (hts (.fieldLink RX7 109 "TallyLogsModel$Log" "high" "I") (by decide +kernel)) (fun _ h9 => h9) rfl (by decide +kernel) rfl rfl (Nat.le_of_ble_eq_true rfl) dX7_crash_117 (fun H locs hP hD hS => ?_)
                have hP := Eq.mp (congrArg (fun w => va_P (dC, dI) vwCl w H) (wP_6_3 (x := z1113) hDo (hM.lg hjl1100).1 (hM.lg hjl1100).2 hj1114)) hP
                obtain ⟨I1115, eI1115⟩ : ∃ z, z = p2 I1108 (w (21 + (5 * y1077.toNatClampNeg + xn.toNatClampNeg))) 3 z1113 := ⟨_, rfl⟩
                rw [← eI1115] at hP
                have hD : va_D A (va_pl L (wF cy K N T I1115 Q Ja1076)) := pD hDo
                have hR : RM w [] I1075 J I1115 Ja1076 := by rw [eI1115]; exact hR.pl hM hjl1100
                have hMU : MU w I1115 := by rw [eI1115]; exact hMU.pl hM hjl1100
                have q1116_1 : (I1115 (w (21 + (5 * y1077.toNatClampNeg + xn.toNatClampNeg))) 1).toInt = (Ia1076 (w (21 + (5 * y1077.toNatClampNeg + xn.toNatClampNeg))) 1).toInt := by rw [eI1115, p2_ne _ _ (fun q => absurd q.2 (by decide)), eI1108, p2_ne _ _ (fun q => absurd q.2 (by decide))]
                have q1116_2 : (I1115 (w (21 + (5 * y1077.toNatClampNeg + xn.toNatClampNeg))) 2).toInt = v1106.toInt := by rw [eI1115, p2_ne _ _ (fun q => absurd q.2 (by decide)), eI1108, p2_at]
                have q1116_3 : (I1115 (w (21 + (5 * y1077.toNatClampNeg + xn.toNatClampNeg))) 3).toInt = z1113.toInt := by rw [eI1115, p2_at]
                have q1116_4 : (I1115 (w (21 + (5 * y1077.toNatClampNeg + xn.toNatClampNeg))) 4).toInt = (Ia1076 (w (21 + (5 * y1077.toNatClampNeg + xn.toNatClampNeg))) 4).toInt := by rw [eI1115, p2_ne _ _ (fun q => absurd q.2 (by decide)), eI1108, p2_ne _ _ (fun q => absurd q.2 (by decide))]
                have hML : ML w E I1115 := hML.of (j := (5 * y1077.toNatClampNeg + xn.toNatClampNeg)) (fun i hi q => by have hj9 := hjl1100; rw [eI1115, p2_na _ _ (hM.ne (by omega) (by omega) (by omega)), eI1108, p2_na _ _ (hM.ne (by omega) (by omega) (by omega))]) ⟨by omega, by omega, by omega, by omega, by omega, by omega⟩ (by omega)
                refine lv_aload_n hx hb dX7_crash_120 rfl (lv_at hl 3 rfl) ?_
                obtain ⟨j1117, hj1117⟩ := wG_7 (cy := cy) (N := N) (T := T) (I := I1115) (Q := Q) (J := Ja1076) (hM.at 0 (by decide)) (hM.k 0 (by decide) rfl)
                refine va_get (D := (dC, dI)) (ci := 7) (v := .ref (T (w 0) 3)) (C := RX7) (T := TX7) (N := 18) hx hb hts hi7 hown hK hP j1117 hj1117 rfl 3 (by decide) (hts (.fieldLink RX7 22 "TallyLogsModel" "leader" "[I") (by decide +kernel)) (fun _ h9 => h9) rfl dX7_crash_121 ?_
                refine W.eq (g2 := F0 m 124 ls [.ref (w 4)]) (by rw [hM.t 3 (by decide)]) ?_
                refine lv_iload hx hb dX7_crash_124 (lv_at hl 1 rfl) ?_
                obtain ⟨j1118, hj1118⟩ := wG_20 (cy := cy) (N := N) (T := T) (I := I1115) (Q := Q) (J := Ja1076) (hM.at 4 (by decide)) (hM.k 4 (by decide) rfl)
                refine va_iald hx hb hK hP j1118 1 hj1118 rfl (hM.inN (n := 4) 4 (by decide) rfl rfl (xin_of hnn1076 (by have kc := c1079; simp only [xk_lt, xk_le, xk_0, xk_1, xk_2, xk_3, xk_4, xk_5, xk_6, xk_7, xk_8, xk_50] at kc; omega))) dX7_crash_126 ?_
                refine lv_topi (fun x1119 ex1119 => ?_)
                refine lv_iload_n hx hb dX7_crash_127 rfl (lv_at hl 4 rfl) ?_
                refine lv_icmp_ne (tgt := 139) hx hb dX7_crash_128 (by decide) (fun c1120 => ?_) (fun c1120 => ?_)
                · have kc1120 : ¬ (x1119.toInt = xn.toInt) := by have h9 := c1120; rw [xk_eq] at h9; exact h9
                  refine lv_aload_n hx hb dX7_crash_139 rfl (lv_at hl 3 rfl) ?_
                  obtain ⟨j1121, hj1121⟩ := wG_7 (cy := cy) (N := N) (T := T) (I := I1115) (Q := Q) (J := Ja1076) (hM.at 0 (by decide)) (hM.k 0 (by decide) rfl)
                  refine va_get (D := (dC, dI)) (ci := 7) (v := .ref (T (w 0) 6)) (C := RX7) (T := TX7) (N := 18) hx hb hts hi7 hown hK hP j1121 hj1121 rfl 6 (by decide) (hts (.fieldLink RX7 31 "TallyLogsModel" "step" "[I") (by decide +kernel)) (fun _ h9 => h9) rfl dX7_crash_140 ?_
                  refine W.eq (g2 := F0 m 143 ls [.ref (w 7)]) (by rw [hM.t 6 (by decide)]) ?_
                  refine lv_iload hx hb dX7_crash_143 (lv_at hl 1 rfl) ?_
                  obtain ⟨j1122, hj1122⟩ := wG_20 (cy := cy) (N := N) (T := T) (I := I1115) (Q := Q) (J := Ja1076) (hM.at 7 (by decide)) (hM.k 7 (by decide) rfl)
                  refine va_iald hx hb hK hP j1122 1 hj1122 rfl (hM.inN (n := 4) 7 (by decide) rfl rfl (xin_of hnn1076 (by have kc := c1079; simp only [xk_lt, xk_le, xk_0, xk_1, xk_2, xk_3, xk_4, xk_5, xk_6, xk_7, xk_8, xk_50] at kc; omega))) dX7_crash_145 ?_
                  refine lv_topi (fun x1123 ex1123 => ?_)
                  refine lv_iconst (v := 1) hx hb dX7_crash_146 (by decide) ?_
                  refine lv_iload_n hx hb dX7_crash_147 rfl (lv_at hl 4 rfl) ?_
                  refine lv_ishl hx hb dX7_crash_148 ?_
                  refine lv_topi (fun v1124 ev1124 => ?_)
                  refine lv_iconst (v := (-1)) hx hb dX7_crash_149 (by decide) ?_
                  refine lv_ixor hx hb dX7_crash_150 ?_
                  refine lv_topi (fun v1125 ev1125 => ?_)
                  refine lv_iand hx hb dX7_crash_151 ?_
                  refine lv_topi (fun v1126 ev1126 => ?_)
                  refine lv_if_eq (tgt := 170) hx hb dX7_crash_152 (by decide) (fun c1127 => ?_) (fun c1127 => ?_)
                  · have kc1127 : v1126.toInt = 0 := by have h9 := c1127; rw [xk_eq, xk_0] at h9; exact h9
                    refine lv_aload_n hx hb dX7_crash_170 rfl (lv_at hl 3 rfl) ?_
                    refine lv_iload hx hb dX7_crash_171 (lv_at hl 1 rfl) ?_
                    obtain ⟨j1128, hj1128⟩ := wG_7 (cy := cy) (N := N) (T := T) (I := I1115) (Q := Q) (J := Ja1076) (hM.at 0 (by decide)) (hM.k 0 (by decide) rfl)
                    have hFc := pfree hD hS hA
                    refine va_callv (va_runV (As := [.int y1077]) (rest := []) ⟨hx, hb, hml, hown, hts⟩ (c_X7_rise l dC dI cy w L K N T Q I1115 Ja1076 H.size y1077 hM (xin_of hnn1076 (by have kc := c1079; simp only [xk_lt, xk_le, xk_0, xk_1, xk_2, xk_3, xk_4, xk_5, xk_6, xk_7, xk_8, xk_50] at kc; omega)) (hMD _ (vp_lt (n := 4) (xin_of hnn1076 (by have kc := c1079; simp only [xk_lt, xk_le, xk_0, xk_1, xk_2, xk_3, xk_4, xk_5, xk_6, xk_7, xk_8, xk_50] at kc; omega))))) (cwV 1 hts gX7_crash_X7_rise rfl rfl rfl (by decide +kernel) ⟨Nat.le_of_ble_eq_true rfl, Nat.le_of_ble_eq_true rfl⟩) ⟨mw_blind, va_recv hK hP (ci := 7) (q0 := j1128) rfl hj1128, fun U hU hW => ⟨rfl, mw_pre hP hK hD hU hW⟩⟩ rfl rfl hl.1 rfl (lv_room (Nat.le_of_ble_eq_true rfl)) dX7_crash_173 ⟨Nat.le_of_ble_eq_true rfl, Nat.le_of_ble_eq_true rfl⟩) hS (fun q _ h => hFc q h) hFc (fun d9 t H1 locs ht hvm hw hB hz1 hk1 hS => ?_)
                    obtain ⟨I1129, J1129⟩ := d9
                    obtain ⟨hP, hK1, hD1⟩ := hB
                    rw [ht] at hP
                    have hD := hD1.weaken (fun _ _ _ h => hFc _ h)
                    generalize H1 = H at hP hS ⊢
                    have hP : va_P (dC, dI) vwCl (va_pl L (wF cy K N T I1129 Q J1129)) H := hP
                    have hD : va_D A (va_pl L (wF cy K N T I1129 Q J1129)) := hD
                    have hw1131 : RZ w I1115 Ja1076 I1129 J1129 y1077.toNatClampNeg := hw
                    have hR : RM w [] I1075 J I1129 J1129 := hR.rz hM (vp_lt (n := 4) (xin_of hnn1076 (by have kc := c1079; simp only [xk_lt, xk_le, xk_0, xk_1, xk_2, xk_3, xk_4, xk_5, xk_6, xk_7, xk_8, xk_50] at kc; omega))) hw1131
                    have hMD : MD w J1129 := hMD.rz hw1131
                    have hMU : MU w I1129 := hMU.rz hM (vp_lt (n := 4) (xin_of hnn1076 (by have kc := c1079; simp only [xk_lt, xk_le, xk_0, xk_1, xk_2, xk_3, xk_4, xk_5, xk_6, xk_7, xk_8, xk_50] at kc; omega))) hw1131
                    have hML : ML w E I1129 := hML.rz hM (vp_lt (n := 4) (xin_of hnn1076 (by have kc := c1079; simp only [xk_lt, xk_le, xk_0, xk_1, xk_2, xk_3, xk_4, xk_5, xk_6, xk_7, xk_8, xk_50] at kc; omega))) hw1131
                    refine lv_aload_n hx hb dX7_crash_176 rfl (lv_at hl 3 rfl) ?_
                    obtain ⟨j1132, hj1132⟩ := wG_7 (cy := cy) (N := N) (T := T) (I := I1129) (Q := Q) (J := J1129) (hM.at 0 (by decide)) (hM.k 0 (by decide) rfl)
                    refine va_get (D := (dC, dI)) (ci := 7) (v := .ref (T (w 0) 3)) (C := RX7) (T := TX7) (N := 18) hx hb hts hi7 hown hK hP j1132 hj1132 rfl 3 (by decide) (hts (.fieldLink RX7 22 "TallyLogsModel" "leader" "[I") (by decide +kernel)) (fun _ h9 => h9) rfl dX7_crash_177 ?_
                    refine W.eq (g2 := F0 m 180 ls [.ref (w 4)]) (by rw [hM.t 3 (by decide)]) ?_
                    refine lv_iload hx hb dX7_crash_180 (lv_at hl 1 rfl) ?_
                    obtain ⟨j1133, hj1133⟩ := wG_20 (cy := cy) (N := N) (T := T) (I := I1129) (Q := Q) (J := J1129) (hM.at 4 (by decide)) (hM.k 4 (by decide) rfl)
                    refine va_iald hx hb hK hP j1133 1 hj1133 rfl (hM.inN (n := 4) 4 (by decide) rfl rfl (xin_of hnn1076 (by have kc := c1079; simp only [xk_lt, xk_le, xk_0, xk_1, xk_2, xk_3, xk_4, xk_5, xk_6, xk_7, xk_8, xk_50] at kc; omega))) dX7_crash_182 ?_
                    refine lv_topi (fun x1134 ex1134 => ?_)
                    refine lv_if_ge (tgt := 189) hx hb dX7_crash_183 (by decide) (fun c1135 => ?_) (fun c1135 => ?_)
                    · have kc1135 : 0 ≤ x1134.toInt := by have h9 := c1135; rw [xk_le, xk_0] at h9; exact h9
                      obtain ⟨v1136, ev1136⟩ : ∃ y : Int32, y = y1077 + Int32.ofInt 1 := ⟨_, rfl⟩
                      refine lv_iinc (v := v1136) (lv' := [(4, .int v1136), (5, .ref (w (21 + (5 * y1077.toNatClampNeg + xn.toNatClampNeg)))), (3, .int y1078), (0, .ref (w 0)), (1, .int xn), (2, .int xk)]) hx hb dX7_crash_189 hl (k := 1) rfl ev1136.symm (by decide) rfl (fun ls hl => ?_)
                      refine lv_goto (tgt := 33) hx hb dX7_crash_192 (by decide) ?_
                      have tv1136 : v1136.toInt = y1077.toInt + 1 := by rw [ev1136, show y1077 + Int32.ofInt 1 = y1077 + 1 from rfl]; exact xinc (y := (4 : Int32)) (by rw [xk_lt, xk_4]; omega)
                      exact ih1076 _ _ _ _ _ _ _ (by omega) (by omega) (trivial) hR (hML.mono (by omega)) hMD hMU hP hD hS (lv_sub hl [0, 2, 3, 4, 5] rfl)
                    · have kc1135 : ¬ (0 ≤ x1134.toInt) := by have h9 := c1135; rw [xk_le, xk_0] at h9; exact h9
                      obtain ⟨v1137, ev1137⟩ : ∃ y : Int32, y = y1078 + Int32.ofInt 1 := ⟨_, rfl⟩
                      refine lv_iinc (v := v1137) (lv' := [(3, .int v1137), (5, .ref (w (21 + (5 * y1077.toNatClampNeg + xn.toNatClampNeg)))), (4, .int y1077), (0, .ref (w 0)), (1, .int xn), (2, .int xk)]) hx hb dX7_crash_186 hl (k := 2) rfl ev1137.symm (by decide) rfl (fun ls hl => ?_)
                      obtain ⟨v1138, ev1138⟩ : ∃ y : Int32, y = y1077 + Int32.ofInt 1 := ⟨_, rfl⟩
                      refine lv_iinc (v := v1138) (lv' := [(4, .int v1138), (3, .int v1137), (5, .ref (w (21 + (5 * y1077.toNatClampNeg + xn.toNatClampNeg)))), (0, .ref (w 0)), (1, .int xn), (2, .int xk)]) hx hb dX7_crash_189 hl (k := 2) rfl ev1138.symm (by decide) rfl (fun ls hl => ?_)
                      refine lv_goto (tgt := 33) hx hb dX7_crash_192 (by decide) ?_
                      have tv1138 : v1138.toInt = y1077.toInt + 1 := by rw [ev1138, show y1077 + Int32.ofInt 1 = y1077 + 1 from rfl]; exact xinc (y := (4 : Int32)) (by rw [xk_lt, xk_4]; omega)
                      exact ih1076 _ _ _ _ _ _ _ (by omega) (by omega) (trivial) hR (hML.mono (by omega)) hMD hMU hP hD hS (lv_sub hl [0, 1, 3, 4, 5] rfl)
                  · have kc1127 : ¬ (v1126.toInt = 0) := by have h9 := c1127; rw [xk_eq, xk_0] at h9; exact h9
                    refine lv_aload_n hx hb dX7_crash_155 rfl (lv_at hl 3 rfl) ?_
                    obtain ⟨j1139, hj1139⟩ := wG_7 (cy := cy) (N := N) (T := T) (I := I1115) (Q := Q) (J := Ja1076) (hM.at 0 (by decide)) (hM.k 0 (by decide) rfl)
                    refine va_get (D := (dC, dI)) (ci := 7) (v := .ref (T (w 0) 6)) (C := RX7) (T := TX7) (N := 18) hx hb hts hi7 hown hK hP j1139 hj1139 rfl 6 (by decide) (hts (.fieldLink RX7 31 "TallyLogsModel" "step" "[I") (by decide +kernel)) (fun _ h9 => h9) rfl dX7_crash_156 ?_
                    refine W.eq (g2 := F0 m 159 ls [.ref (w 7)]) (by rw [hM.t 6 (by decide)]) ?_
                    refine lv_iload hx hb dX7_crash_159 (lv_at hl 1 rfl) ?_
                    refine lv_dup2_11 hx hb dX7_crash_161 rfl rfl ?_
                    obtain ⟨j1140, hj1140⟩ := wG_20 (cy := cy) (N := N) (T := T) (I := I1115) (Q := Q) (J := Ja1076) (hM.at 7 (by decide)) (hM.k 7 (by decide) rfl)
                    refine va_iald hx hb hK hP j1140 1 hj1140 rfl (hM.inN (n := 4) 7 (by decide) rfl rfl (xin_of hnn1076 (by have kc := c1079; simp only [xk_lt, xk_le, xk_0, xk_1, xk_2, xk_3, xk_4, xk_5, xk_6, xk_7, xk_8, xk_50] at kc; omega))) dX7_crash_162 ?_
                    refine lv_topi (fun x1141 ex1141 => ?_)
                    refine lv_iconst (v := 1) hx hb dX7_crash_163 (by decide) ?_
                    refine lv_iload_n hx hb dX7_crash_164 rfl (lv_at hl 4 rfl) ?_
                    refine lv_ishl hx hb dX7_crash_165 ?_
                    refine lv_topi (fun v1142 ev1142 => ?_)
                    refine lv_iconst (v := (-1)) hx hb dX7_crash_166 (by decide) ?_
                    refine lv_ixor hx hb dX7_crash_167 ?_
                    refine lv_topi (fun v1143 ev1143 => ?_)
                    refine lv_iand hx hb dX7_crash_168 ?_
                    refine lv_topi (fun v1144 ev1144 => ?_)
                    obtain ⟨j1145, hj1145⟩ := wG_20 (cy := cy) (N := N) (T := T) (I := I1115) (Q := Q) (J := Ja1076) (hM.at 7 (by decide)) (hM.k 7 (by decide) rfl)
                    have hDo := hD
                    refine va_iast (x := v1144) hx hb hK hP hD hS j1145 1 hj1145 rfl (hM.inN (n := 4) 7 (by decide) rfl rfl (xin_of hnn1076 (by have kc := c1079; simp only [xk_lt, xk_le, xk_0, xk_1, xk_2, xk_3, xk_4, xk_5, xk_6, xk_7, xk_8, xk_50] at kc; omega))) dX7_crash_169 (fun H locs hP hD hS => ?_)
                    have hP := Eq.mp (congrArg (fun w => va_P (dC, dI) vwCl w H) (wS_20 hDo (hM.at 7 (by decide)) (hM.k 7 (by decide) rfl) hj1145)) hP
                    obtain ⟨J1146, eJ1146⟩ : ∃ z, z = va_up Ja1076 (w 7) (upd (Ja1076 (w 7)) y1077.toNatClampNeg v1144) := ⟨_, rfl⟩
                    rw [← eJ1146] at hP
                    have hR : RM w [] I1075 J I1115 J1146 := by rw [eJ1146]; exact hR.pj hM (by decide) (by decide)
                    have hMD : MD w J1146 := by
                      rw [eJ1146, ev1144, ex1141, ev1143, ev1142]
                      exact hMD.p7 hM ((hMD _ (vp_lt (n := 4) (xin_of hnn1076 (by have kc := c1079; simp only [xk_lt, xk_le, xk_0, xk_1, xk_2, xk_3, xk_4, xk_5, xk_6, xk_7, xk_8, xk_50] at kc; omega)))).clr hup1067.1 (fun q => c1120 (by rw [ex1119]; exact q)))
                    have hD : va_D A (va_pl L (wF cy K N T I1115 Q J1146)) := pD hDo
                    refine lv_aload_n hx hb dX7_crash_170 rfl (lv_at hl 3 rfl) ?_
                    refine lv_iload hx hb dX7_crash_171 (lv_at hl 1 rfl) ?_
                    obtain ⟨j1147, hj1147⟩ := wG_7 (cy := cy) (N := N) (T := T) (I := I1115) (Q := Q) (J := J1146) (hM.at 0 (by decide)) (hM.k 0 (by decide) rfl)
                    have hFc := pfree hD hS hA
                    refine va_callv (va_runV (As := [.int y1077]) (rest := []) ⟨hx, hb, hml, hown, hts⟩ (c_X7_rise l dC dI cy w L K N T Q I1115 J1146 H.size y1077 hM (xin_of hnn1076 (by have kc := c1079; simp only [xk_lt, xk_le, xk_0, xk_1, xk_2, xk_3, xk_4, xk_5, xk_6, xk_7, xk_8, xk_50] at kc; omega)) (hMD _ (vp_lt (n := 4) (xin_of hnn1076 (by have kc := c1079; simp only [xk_lt, xk_le, xk_0, xk_1, xk_2, xk_3, xk_4, xk_5, xk_6, xk_7, xk_8, xk_50] at kc; omega))))) (cwV 1 hts gX7_crash_X7_rise rfl rfl rfl (by decide +kernel) ⟨Nat.le_of_ble_eq_true rfl, Nat.le_of_ble_eq_true rfl⟩) ⟨mw_blind, va_recv hK hP (ci := 7) (q0 := j1147) rfl hj1147, fun U hU hW => ⟨rfl, mw_pre hP hK hD hU hW⟩⟩ rfl rfl hl.1 rfl (lv_room (Nat.le_of_ble_eq_true rfl)) dX7_crash_173 ⟨Nat.le_of_ble_eq_true rfl, Nat.le_of_ble_eq_true rfl⟩) hS (fun q _ h => hFc q h) hFc (fun d9 t H1 locs ht hvm hw hB hz1 hk1 hS => ?_)
                    obtain ⟨I1148, J1148⟩ := d9
                    obtain ⟨hP, hK1, hD1⟩ := hB
                    rw [ht] at hP
                    have hD := hD1.weaken (fun _ _ _ h => hFc _ h)
                    generalize H1 = H at hP hS ⊢
                    have hP : va_P (dC, dI) vwCl (va_pl L (wF cy K N T I1148 Q J1148)) H := hP
                    have hD : va_D A (va_pl L (wF cy K N T I1148 Q J1148)) := hD
                    have hw1150 : RZ w I1115 J1146 I1148 J1148 y1077.toNatClampNeg := hw
                    have hR : RM w [] I1075 J I1148 J1148 := hR.rz hM (vp_lt (n := 4) (xin_of hnn1076 (by have kc := c1079; simp only [xk_lt, xk_le, xk_0, xk_1, xk_2, xk_3, xk_4, xk_5, xk_6, xk_7, xk_8, xk_50] at kc; omega))) hw1150
                    have hMD : MD w J1148 := hMD.rz hw1150
                    have hMU : MU w I1148 := hMU.rz hM (vp_lt (n := 4) (xin_of hnn1076 (by have kc := c1079; simp only [xk_lt, xk_le, xk_0, xk_1, xk_2, xk_3, xk_4, xk_5, xk_6, xk_7, xk_8, xk_50] at kc; omega))) hw1150
                    have hML : ML w E I1148 := hML.rz hM (vp_lt (n := 4) (xin_of hnn1076 (by have kc := c1079; simp only [xk_lt, xk_le, xk_0, xk_1, xk_2, xk_3, xk_4, xk_5, xk_6, xk_7, xk_8, xk_50] at kc; omega))) hw1150
                    refine lv_aload_n hx hb dX7_crash_176 rfl (lv_at hl 3 rfl) ?_
                    obtain ⟨j1151, hj1151⟩ := wG_7 (cy := cy) (N := N) (T := T) (I := I1148) (Q := Q) (J := J1148) (hM.at 0 (by decide)) (hM.k 0 (by decide) rfl)
                    refine va_get (D := (dC, dI)) (ci := 7) (v := .ref (T (w 0) 3)) (C := RX7) (T := TX7) (N := 18) hx hb hts hi7 hown hK hP j1151 hj1151 rfl 3 (by decide) (hts (.fieldLink RX7 22 "TallyLogsModel" "leader" "[I") (by decide +kernel)) (fun _ h9 => h9) rfl dX7_crash_177 ?_
                    refine W.eq (g2 := F0 m 180 ls [.ref (w 4)]) (by rw [hM.t 3 (by decide)]) ?_
                    refine lv_iload hx hb dX7_crash_180 (lv_at hl 1 rfl) ?_
                    obtain ⟨j1152, hj1152⟩ := wG_20 (cy := cy) (N := N) (T := T) (I := I1148) (Q := Q) (J := J1148) (hM.at 4 (by decide)) (hM.k 4 (by decide) rfl)
                    refine va_iald hx hb hK hP j1152 1 hj1152 rfl (hM.inN (n := 4) 4 (by decide) rfl rfl (xin_of hnn1076 (by have kc := c1079; simp only [xk_lt, xk_le, xk_0, xk_1, xk_2, xk_3, xk_4, xk_5, xk_6, xk_7, xk_8, xk_50] at kc; omega))) dX7_crash_182 ?_
                    refine lv_topi (fun x1153 ex1153 => ?_)
                    refine lv_if_ge (tgt := 189) hx hb dX7_crash_183 (by decide) (fun c1154 => ?_) (fun c1154 => ?_)
                    · have kc1154 : 0 ≤ x1153.toInt := by have h9 := c1154; rw [xk_le, xk_0] at h9; exact h9
                      obtain ⟨v1155, ev1155⟩ : ∃ y : Int32, y = y1077 + Int32.ofInt 1 := ⟨_, rfl⟩
                      refine lv_iinc (v := v1155) (lv' := [(4, .int v1155), (5, .ref (w (21 + (5 * y1077.toNatClampNeg + xn.toNatClampNeg)))), (3, .int y1078), (0, .ref (w 0)), (1, .int xn), (2, .int xk)]) hx hb dX7_crash_189 hl (k := 1) rfl ev1155.symm (by decide) rfl (fun ls hl => ?_)
                      refine lv_goto (tgt := 33) hx hb dX7_crash_192 (by decide) ?_
                      have tv1155 : v1155.toInt = y1077.toInt + 1 := by rw [ev1155, show y1077 + Int32.ofInt 1 = y1077 + 1 from rfl]; exact xinc (y := (4 : Int32)) (by rw [xk_lt, xk_4]; omega)
                      exact ih1076 _ _ _ _ _ _ _ (by omega) (by omega) (trivial) hR (hML.mono (by omega)) hMD hMU hP hD hS (lv_sub hl [0, 2, 3, 4, 5] rfl)
                    · have kc1154 : ¬ (0 ≤ x1153.toInt) := by have h9 := c1154; rw [xk_le, xk_0] at h9; exact h9
                      obtain ⟨v1156, ev1156⟩ : ∃ y : Int32, y = y1078 + Int32.ofInt 1 := ⟨_, rfl⟩
                      refine lv_iinc (v := v1156) (lv' := [(3, .int v1156), (5, .ref (w (21 + (5 * y1077.toNatClampNeg + xn.toNatClampNeg)))), (4, .int y1077), (0, .ref (w 0)), (1, .int xn), (2, .int xk)]) hx hb dX7_crash_186 hl (k := 2) rfl ev1156.symm (by decide) rfl (fun ls hl => ?_)
                      obtain ⟨v1157, ev1157⟩ : ∃ y : Int32, y = y1077 + Int32.ofInt 1 := ⟨_, rfl⟩
                      refine lv_iinc (v := v1157) (lv' := [(4, .int v1157), (3, .int v1156), (5, .ref (w (21 + (5 * y1077.toNatClampNeg + xn.toNatClampNeg)))), (0, .ref (w 0)), (1, .int xn), (2, .int xk)]) hx hb dX7_crash_189 hl (k := 2) rfl ev1157.symm (by decide) rfl (fun ls hl => ?_)
                      refine lv_goto (tgt := 33) hx hb dX7_crash_192 (by decide) ?_
                      have tv1157 : v1157.toInt = y1077.toInt + 1 := by rw [ev1157, show y1077 + Int32.ofInt 1 = y1077 + 1 from rfl]; exact xinc (y := (4 : Int32)) (by rw [xk_lt, xk_4]; omega)
                      exact ih1076 _ _ _ _ _ _ _ (by omega) (by omega) (trivial) hR (hML.mono (by omega)) hMD hMU hP hD hS (lv_sub hl [0, 1, 3, 4, 5] rfl)
                · have kc1120 : x1119.toInt = xn.toInt := by have h9 := c1120; rw [xk_eq] at h9; exact h9
                  refine lv_aload_n hx hb dX7_crash_131 rfl (lv_at hl 3 rfl) ?_
                  obtain ⟨j1158, hj1158⟩ := wG_7 (cy := cy) (N := N) (T := T) (I := I1115) (Q := Q) (J := Ja1076) (hM.at 0 (by decide)) (hM.k 0 (by decide) rfl)
                  refine va_get (D := (dC, dI)) (ci := 7) (v := .ref (T (w 0) 3)) (C := RX7) (T := TX7) (N := 18) hx hb hts hi7 hown hK hP j1158 hj1158 rfl 3 (by decide) (hts (.fieldLink RX7 22 "TallyLogsModel" "leader" "[I") (by decide +kernel)) (fun _ h9 => h9) rfl dX7_crash_132 ?_
                  refine W.eq (g2 := F0 m 135 ls [.ref (w 4)]) (by rw [hM.t 3 (by decide)]) ?_
                  refine lv_iload hx hb dX7_crash_135 (lv_at hl 1 rfl) ?_
                  refine lv_iconst (v := (-1)) hx hb dX7_crash_137 (by decide) ?_
                  obtain ⟨j1159, hj1159⟩ := wG_20 (cy := cy) (N := N) (T := T) (I := I1115) (Q := Q) (J := Ja1076) (hM.at 4 (by decide)) (hM.k 4 (by decide) rfl)
                  have hDo := hD
                  refine va_iast (x := (-1)) hx hb hK hP hD hS j1159 1 hj1159 rfl (hM.inN (n := 4) 4 (by decide) rfl rfl (xin_of hnn1076 (by have kc := c1079; simp only [xk_lt, xk_le, xk_0, xk_1, xk_2, xk_3, xk_4, xk_5, xk_6, xk_7, xk_8, xk_50] at kc; omega))) dX7_crash_138 (fun H locs hP hD hS => ?_)
                  have hP := Eq.mp (congrArg (fun w => va_P (dC, dI) vwCl w H) (wS_20 hDo (hM.at 4 (by decide)) (hM.k 4 (by decide) rfl) hj1159)) hP
                  obtain ⟨J1160, eJ1160⟩ : ∃ z, z = va_up Ja1076 (w 4) (upd (Ja1076 (w 4)) y1077.toNatClampNeg (-1)) := ⟨_, rfl⟩
                  rw [← eJ1160] at hP
                  have hR : RM w [] I1075 J I1115 J1160 := by rw [eJ1160]; exact hR.pj hM (by decide) (by decide)
                  have hMD : MD w J1160 := by rw [eJ1160]; exact MD.p4 hM (fun p hp _ => hMD p hp) (Or.inl (by decide))
                  have hD : va_D A (va_pl L (wF cy K N T I1115 Q J1160)) := pD hDo
                  refine lv_aload_n hx hb dX7_crash_139 rfl (lv_at hl 3 rfl) ?_
                  obtain ⟨j1161, hj1161⟩ := wG_7 (cy := cy) (N := N) (T := T) (I := I1115) (Q := Q) (J := J1160) (hM.at 0 (by decide)) (hM.k 0 (by decide) rfl)
                  refine va_get (D := (dC, dI)) (ci := 7) (v := .ref (T (w 0) 6)) (C := RX7) (T := TX7) (N := 18) hx hb hts hi7 hown hK hP j1161 hj1161 rfl 6 (by decide) (hts (.fieldLink RX7 31 "TallyLogsModel" "step" "[I") (by decide +kernel)) (fun _ h9 => h9) rfl dX7_crash_140 ?_
                  refine W.eq (g2 := F0 m 143 ls [.ref (w 7)]) (by rw [hM.t 6 (by decide)]) ?_
                  refine lv_iload hx hb dX7_crash_143 (lv_at hl 1 rfl) ?_
                  obtain ⟨j1162, hj1162⟩ := wG_20 (cy := cy) (N := N) (T := T) (I := I1115) (Q := Q) (J := J1160) (hM.at 7 (by decide)) (hM.k 7 (by decide) rfl)
                  refine va_iald hx hb hK hP j1162 1 hj1162 rfl (hM.inN (n := 4) 7 (by decide) rfl rfl (xin_of hnn1076 (by have kc := c1079; simp only [xk_lt, xk_le, xk_0, xk_1, xk_2, xk_3, xk_4, xk_5, xk_6, xk_7, xk_8, xk_50] at kc; omega))) dX7_crash_145 ?_
                  refine lv_topi (fun x1163 ex1163 => ?_)
                  refine lv_iconst (v := 1) hx hb dX7_crash_146 (by decide) ?_
                  refine lv_iload_n hx hb dX7_crash_147 rfl (lv_at hl 4 rfl) ?_
                  refine lv_ishl hx hb dX7_crash_148 ?_
                  refine lv_topi (fun v1164 ev1164 => ?_)
                  refine lv_iconst (v := (-1)) hx hb dX7_crash_149 (by decide) ?_
                  refine lv_ixor hx hb dX7_crash_150 ?_
                  refine lv_topi (fun v1165 ev1165 => ?_)
                  refine lv_iand hx hb dX7_crash_151 ?_
                  refine lv_topi (fun v1166 ev1166 => ?_)
                  refine lv_if_eq (tgt := 170) hx hb dX7_crash_152 (by decide) (fun c1167 => ?_) (fun c1167 => ?_)
                  · have kc1167 : v1166.toInt = 0 := by have h9 := c1167; rw [xk_eq, xk_0] at h9; exact h9
                    refine lv_aload_n hx hb dX7_crash_170 rfl (lv_at hl 3 rfl) ?_
                    refine lv_iload hx hb dX7_crash_171 (lv_at hl 1 rfl) ?_
                    obtain ⟨j1168, hj1168⟩ := wG_7 (cy := cy) (N := N) (T := T) (I := I1115) (Q := Q) (J := J1160) (hM.at 0 (by decide)) (hM.k 0 (by decide) rfl)
                    have hFc := pfree hD hS hA
                    refine va_callv (va_runV (As := [.int y1077]) (rest := []) ⟨hx, hb, hml, hown, hts⟩ (c_X7_rise l dC dI cy w L K N T Q I1115 J1160 H.size y1077 hM (xin_of hnn1076 (by have kc := c1079; simp only [xk_lt, xk_le, xk_0, xk_1, xk_2, xk_3, xk_4, xk_5, xk_6, xk_7, xk_8, xk_50] at kc; omega)) (hMD _ (vp_lt (n := 4) (xin_of hnn1076 (by have kc := c1079; simp only [xk_lt, xk_le, xk_0, xk_1, xk_2, xk_3, xk_4, xk_5, xk_6, xk_7, xk_8, xk_50] at kc; omega))))) (cwV 1 hts gX7_crash_X7_rise rfl rfl rfl (by decide +kernel) ⟨Nat.le_of_ble_eq_true rfl, Nat.le_of_ble_eq_true rfl⟩) ⟨mw_blind, va_recv hK hP (ci := 7) (q0 := j1168) rfl hj1168, fun U hU hW => ⟨rfl, mw_pre hP hK hD hU hW⟩⟩ rfl rfl hl.1 rfl (lv_room (Nat.le_of_ble_eq_true rfl)) dX7_crash_173 ⟨Nat.le_of_ble_eq_true rfl, Nat.le_of_ble_eq_true rfl⟩) hS (fun q _ h => hFc q h) hFc (fun d9 t H1 locs ht hvm hw hB hz1 hk1 hS => ?_)
                    obtain ⟨I1169, J1169⟩ := d9
                    obtain ⟨hP, hK1, hD1⟩ := hB
                    rw [ht] at hP
                    have hD := hD1.weaken (fun _ _ _ h => hFc _ h)
                    generalize H1 = H at hP hS ⊢
                    have hP : va_P (dC, dI) vwCl (va_pl L (wF cy K N T I1169 Q J1169)) H := hP
                    have hD : va_D A (va_pl L (wF cy K N T I1169 Q J1169)) := hD
                    have hw1171 : RZ w I1115 J1160 I1169 J1169 y1077.toNatClampNeg := hw
                    have hR : RM w [] I1075 J I1169 J1169 := hR.rz hM (vp_lt (n := 4) (xin_of hnn1076 (by have kc := c1079; simp only [xk_lt, xk_le, xk_0, xk_1, xk_2, xk_3, xk_4, xk_5, xk_6, xk_7, xk_8, xk_50] at kc; omega))) hw1171
                    have hMD : MD w J1169 := hMD.rz hw1171
                    have hMU : MU w I1169 := hMU.rz hM (vp_lt (n := 4) (xin_of hnn1076 (by have kc := c1079; simp only [xk_lt, xk_le, xk_0, xk_1, xk_2, xk_3, xk_4, xk_5, xk_6, xk_7, xk_8, xk_50] at kc; omega))) hw1171
                    have hML : ML w E I1169 := hML.rz hM (vp_lt (n := 4) (xin_of hnn1076 (by have kc := c1079; simp only [xk_lt, xk_le, xk_0, xk_1, xk_2, xk_3, xk_4, xk_5, xk_6, xk_7, xk_8, xk_50] at kc; omega))) hw1171
                    refine lv_aload_n hx hb dX7_crash_176 rfl (lv_at hl 3 rfl) ?_
                    obtain ⟨j1172, hj1172⟩ := wG_7 (cy := cy) (N := N) (T := T) (I := I1169) (Q := Q) (J := J1169) (hM.at 0 (by decide)) (hM.k 0 (by decide) rfl)
                    refine va_get (D := (dC, dI)) (ci := 7) (v := .ref (T (w 0) 3)) (C := RX7) (T := TX7) (N := 18) hx hb hts hi7 hown hK hP j1172 hj1172 rfl 3 (by decide) (hts (.fieldLink RX7 22 "TallyLogsModel" "leader" "[I") (by decide +kernel)) (fun _ h9 => h9) rfl dX7_crash_177 ?_
                    refine W.eq (g2 := F0 m 180 ls [.ref (w 4)]) (by rw [hM.t 3 (by decide)]) ?_
                    refine lv_iload hx hb dX7_crash_180 (lv_at hl 1 rfl) ?_
                    obtain ⟨j1173, hj1173⟩ := wG_20 (cy := cy) (N := N) (T := T) (I := I1169) (Q := Q) (J := J1169) (hM.at 4 (by decide)) (hM.k 4 (by decide) rfl)
                    refine va_iald hx hb hK hP j1173 1 hj1173 rfl (hM.inN (n := 4) 4 (by decide) rfl rfl (xin_of hnn1076 (by have kc := c1079; simp only [xk_lt, xk_le, xk_0, xk_1, xk_2, xk_3, xk_4, xk_5, xk_6, xk_7, xk_8, xk_50] at kc; omega))) dX7_crash_182 ?_
                    refine lv_topi (fun x1174 ex1174 => ?_)
                    refine lv_if_ge (tgt := 189) hx hb dX7_crash_183 (by decide) (fun c1175 => ?_) (fun c1175 => ?_)
                    · have kc1175 : 0 ≤ x1174.toInt := by have h9 := c1175; rw [xk_le, xk_0] at h9; exact h9
                      obtain ⟨v1176, ev1176⟩ : ∃ y : Int32, y = y1077 + Int32.ofInt 1 := ⟨_, rfl⟩
                      refine lv_iinc (v := v1176) (lv' := [(4, .int v1176), (5, .ref (w (21 + (5 * y1077.toNatClampNeg + xn.toNatClampNeg)))), (3, .int y1078), (0, .ref (w 0)), (1, .int xn), (2, .int xk)]) hx hb dX7_crash_189 hl (k := 1) rfl ev1176.symm (by decide) rfl (fun ls hl => ?_)
                      refine lv_goto (tgt := 33) hx hb dX7_crash_192 (by decide) ?_
                      have tv1176 : v1176.toInt = y1077.toInt + 1 := by rw [ev1176, show y1077 + Int32.ofInt 1 = y1077 + 1 from rfl]; exact xinc (y := (4 : Int32)) (by rw [xk_lt, xk_4]; omega)
                      exact ih1076 _ _ _ _ _ _ _ (by omega) (by omega) (trivial) hR (hML.mono (by omega)) hMD hMU hP hD hS (lv_sub hl [0, 2, 3, 4, 5] rfl)
                    · have kc1175 : ¬ (0 ≤ x1174.toInt) := by have h9 := c1175; rw [xk_le, xk_0] at h9; exact h9
                      obtain ⟨v1177, ev1177⟩ : ∃ y : Int32, y = y1078 + Int32.ofInt 1 := ⟨_, rfl⟩
                      refine lv_iinc (v := v1177) (lv' := [(3, .int v1177), (5, .ref (w (21 + (5 * y1077.toNatClampNeg + xn.toNatClampNeg)))), (4, .int y1077), (0, .ref (w 0)), (1, .int xn), (2, .int xk)]) hx hb dX7_crash_186 hl (k := 2) rfl ev1177.symm (by decide) rfl (fun ls hl => ?_)
                      obtain ⟨v1178, ev1178⟩ : ∃ y : Int32, y = y1077 + Int32.ofInt 1 := ⟨_, rfl⟩
                      refine lv_iinc (v := v1178) (lv' := [(4, .int v1178), (3, .int v1177), (5, .ref (w (21 + (5 * y1077.toNatClampNeg + xn.toNatClampNeg)))), (0, .ref (w 0)), (1, .int xn), (2, .int xk)]) hx hb dX7_crash_189 hl (k := 2) rfl ev1178.symm (by decide) rfl (fun ls hl => ?_)
                      refine lv_goto (tgt := 33) hx hb dX7_crash_192 (by decide) ?_
                      have tv1178 : v1178.toInt = y1077.toInt + 1 := by rw [ev1178, show y1077 + Int32.ofInt 1 = y1077 + 1 from rfl]; exact xinc (y := (4 : Int32)) (by rw [xk_lt, xk_4]; omega)
                      exact ih1076 _ _ _ _ _ _ _ (by omega) (by omega) (trivial) hR (hML.mono (by omega)) hMD hMU hP hD hS (lv_sub hl [0, 1, 3, 4, 5] rfl)
                  · have kc1167 : ¬ (v1166.toInt = 0) := by have h9 := c1167; rw [xk_eq, xk_0] at h9; exact h9
                    refine lv_aload_n hx hb dX7_crash_155 rfl (lv_at hl 3 rfl) ?_
                    obtain ⟨j1179, hj1179⟩ := wG_7 (cy := cy) (N := N) (T := T) (I := I1115) (Q := Q) (J := J1160) (hM.at 0 (by decide)) (hM.k 0 (by decide) rfl)
                    refine va_get (D := (dC, dI)) (ci := 7) (v := .ref (T (w 0) 6)) (C := RX7) (T := TX7) (N := 18) hx hb hts hi7 hown hK hP j1179 hj1179 rfl 6 (by decide) (hts (.fieldLink RX7 31 "TallyLogsModel" "step" "[I") (by decide +kernel)) (fun _ h9 => h9) rfl dX7_crash_156 ?_
                    refine W.eq (g2 := F0 m 159 ls [.ref (w 7)]) (by rw [hM.t 6 (by decide)]) ?_
                    refine lv_iload hx hb dX7_crash_159 (lv_at hl 1 rfl) ?_
                    refine lv_dup2_11 hx hb dX7_crash_161 rfl rfl ?_
                    obtain ⟨j1180, hj1180⟩ := wG_20 (cy := cy) (N := N) (T := T) (I := I1115) (Q := Q) (J := J1160) (hM.at 7 (by decide)) (hM.k 7 (by decide) rfl)
                    refine va_iald hx hb hK hP j1180 1 hj1180 rfl (hM.inN (n := 4) 7 (by decide) rfl rfl (xin_of hnn1076 (by have kc := c1079; simp only [xk_lt, xk_le, xk_0, xk_1, xk_2, xk_3, xk_4, xk_5, xk_6, xk_7, xk_8, xk_50] at kc; omega))) dX7_crash_162 ?_
                    refine lv_topi (fun x1181 ex1181 => ?_)
                    refine lv_iconst (v := 1) hx hb dX7_crash_163 (by decide) ?_
                    refine lv_iload_n hx hb dX7_crash_164 rfl (lv_at hl 4 rfl) ?_
                    refine lv_ishl hx hb dX7_crash_165 ?_
                    refine lv_topi (fun v1182 ev1182 => ?_)
                    refine lv_iconst (v := (-1)) hx hb dX7_crash_166 (by decide) ?_
                    refine lv_ixor hx hb dX7_crash_167 ?_
                    refine lv_topi (fun v1183 ev1183 => ?_)
                    refine lv_iand hx hb dX7_crash_168 ?_
                    refine lv_topi (fun v1184 ev1184 => ?_)
                    obtain ⟨j1185, hj1185⟩ := wG_20 (cy := cy) (N := N) (T := T) (I := I1115) (Q := Q) (J := J1160) (hM.at 7 (by decide)) (hM.k 7 (by decide) rfl)
                    have hDo := hD
                    refine va_iast (x := v1184) hx hb hK hP hD hS j1185 1 hj1185 rfl (hM.inN (n := 4) 7 (by decide) rfl rfl (xin_of hnn1076 (by have kc := c1079; simp only [xk_lt, xk_le, xk_0, xk_1, xk_2, xk_3, xk_4, xk_5, xk_6, xk_7, xk_8, xk_50] at kc; omega))) dX7_crash_169 (fun H locs hP hD hS => ?_)
                    have hP := Eq.mp (congrArg (fun w => va_P (dC, dI) vwCl w H) (wS_20 hDo (hM.at 7 (by decide)) (hM.k 7 (by decide) rfl) hj1185)) hP
                    obtain ⟨J1186, eJ1186⟩ : ∃ z, z = va_up J1160 (w 7) (upd (J1160 (w 7)) y1077.toNatClampNeg v1184) := ⟨_, rfl⟩
                    rw [← eJ1186] at hP
                    have hR : RM w [] I1075 J I1115 J1186 := by rw [eJ1186]; exact hR.pj hM (by decide) (by decide)
                    have hMD : MD w J1186 := by
                      rw [eJ1186, ev1184, ex1181, ev1183, ev1182]
                      exact hMD.p7 hM ((hMD _ (vp_lt (n := 4) (xin_of hnn1076 (by have kc := c1079; simp only [xk_lt, xk_le, xk_0, xk_1, xk_2, xk_3, xk_4, xk_5, xk_6, xk_7, xk_8, xk_50] at kc; omega)))).clr hup1067.1 (by rw [eJ1160, va_up_self]; simp only [upd, if_true]; intro q; have h9 := vp_in_iff.mp hup1067.1; rw [← q] at h9; exact absurd h9.1 (by decide)))
                    have hD : va_D A (va_pl L (wF cy K N T I1115 Q J1186)) := pD hDo
                    refine lv_aload_n hx hb dX7_crash_170 rfl (lv_at hl 3 rfl) ?_
                    refine lv_iload hx hb dX7_crash_171 (lv_at hl 1 rfl) ?_
                    obtain ⟨j1187, hj1187⟩ := wG_7 (cy := cy) (N := N) (T := T) (I := I1115) (Q := Q) (J := J1186) (hM.at 0 (by decide)) (hM.k 0 (by decide) rfl)
                    have hFc := pfree hD hS hA
                    refine va_callv (va_runV (As := [.int y1077]) (rest := []) ⟨hx, hb, hml, hown, hts⟩ (c_X7_rise l dC dI cy w L K N T Q I1115 J1186 H.size y1077 hM (xin_of hnn1076 (by have kc := c1079; simp only [xk_lt, xk_le, xk_0, xk_1, xk_2, xk_3, xk_4, xk_5, xk_6, xk_7, xk_8, xk_50] at kc; omega)) (hMD _ (vp_lt (n := 4) (xin_of hnn1076 (by have kc := c1079; simp only [xk_lt, xk_le, xk_0, xk_1, xk_2, xk_3, xk_4, xk_5, xk_6, xk_7, xk_8, xk_50] at kc; omega))))) (cwV 1 hts gX7_crash_X7_rise rfl rfl rfl (by decide +kernel) ⟨Nat.le_of_ble_eq_true rfl, Nat.le_of_ble_eq_true rfl⟩) ⟨mw_blind, va_recv hK hP (ci := 7) (q0 := j1187) rfl hj1187, fun U hU hW => ⟨rfl, mw_pre hP hK hD hU hW⟩⟩ rfl rfl hl.1 rfl (lv_room (Nat.le_of_ble_eq_true rfl)) dX7_crash_173 ⟨Nat.le_of_ble_eq_true rfl, Nat.le_of_ble_eq_true rfl⟩) hS (fun q _ h => hFc q h) hFc (fun d9 t H1 locs ht hvm hw hB hz1 hk1 hS => ?_)
                    obtain ⟨I1188, J1188⟩ := d9
                    obtain ⟨hP, hK1, hD1⟩ := hB
                    rw [ht] at hP
                    have hD := hD1.weaken (fun _ _ _ h => hFc _ h)
                    generalize H1 = H at hP hS ⊢
                    have hP : va_P (dC, dI) vwCl (va_pl L (wF cy K N T I1188 Q J1188)) H := hP
                    have hD : va_D A (va_pl L (wF cy K N T I1188 Q J1188)) := hD
                    have hw1190 : RZ w I1115 J1186 I1188 J1188 y1077.toNatClampNeg := hw
                    have hR : RM w [] I1075 J I1188 J1188 := hR.rz hM (vp_lt (n := 4) (xin_of hnn1076 (by have kc := c1079; simp only [xk_lt, xk_le, xk_0, xk_1, xk_2, xk_3, xk_4, xk_5, xk_6, xk_7, xk_8, xk_50] at kc; omega))) hw1190
                    have hMD : MD w J1188 := hMD.rz hw1190
                    have hMU : MU w I1188 := hMU.rz hM (vp_lt (n := 4) (xin_of hnn1076 (by have kc := c1079; simp only [xk_lt, xk_le, xk_0, xk_1, xk_2, xk_3, xk_4, xk_5, xk_6, xk_7, xk_8, xk_50] at kc; omega))) hw1190
                    have hML : ML w E I1188 := hML.rz hM (vp_lt (n := 4) (xin_of hnn1076 (by have kc := c1079; simp only [xk_lt, xk_le, xk_0, xk_1, xk_2, xk_3, xk_4, xk_5, xk_6, xk_7, xk_8, xk_50] at kc; omega))) hw1190
                    refine lv_aload_n hx hb dX7_crash_176 rfl (lv_at hl 3 rfl) ?_
                    obtain ⟨j1191, hj1191⟩ := wG_7 (cy := cy) (N := N) (T := T) (I := I1188) (Q := Q) (J := J1188) (hM.at 0 (by decide)) (hM.k 0 (by decide) rfl)
                    refine va_get (D := (dC, dI)) (ci := 7) (v := .ref (T (w 0) 3)) (C := RX7) (T := TX7) (N := 18) hx hb hts hi7 hown hK hP j1191 hj1191 rfl 3 (by decide) (hts (.fieldLink RX7 22 "TallyLogsModel" "leader" "[I") (by decide +kernel)) (fun _ h9 => h9) rfl dX7_crash_177 ?_
                    refine W.eq (g2 := F0 m 180 ls [.ref (w 4)]) (by rw [hM.t 3 (by decide)]) ?_
                    refine lv_iload hx hb dX7_crash_180 (lv_at hl 1 rfl) ?_
                    obtain ⟨j1192, hj1192⟩ := wG_20 (cy := cy) (N := N) (T := T) (I := I1188) (Q := Q) (J := J1188) (hM.at 4 (by decide)) (hM.k 4 (by decide) rfl)
                    refine va_iald hx hb hK hP j1192 1 hj1192 rfl (hM.inN (n := 4) 4 (by decide) rfl rfl (xin_of hnn1076 (by have kc := c1079; simp only [xk_lt, xk_le, xk_0, xk_1, xk_2, xk_3, xk_4, xk_5, xk_6, xk_7, xk_8, xk_50] at kc; omega))) dX7_crash_182 ?_
                    refine lv_topi (fun x1193 ex1193 => ?_)
                    refine lv_if_ge (tgt := 189) hx hb dX7_crash_183 (by decide) (fun c1194 => ?_) (fun c1194 => ?_)
                    · have kc1194 : 0 ≤ x1193.toInt := by have h9 := c1194; rw [xk_le, xk_0] at h9; exact h9
                      obtain ⟨v1195, ev1195⟩ : ∃ y : Int32, y = y1077 + Int32.ofInt 1 := ⟨_, rfl⟩
                      refine lv_iinc (v := v1195) (lv' := [(4, .int v1195), (5, .ref (w (21 + (5 * y1077.toNatClampNeg + xn.toNatClampNeg)))), (3, .int y1078), (0, .ref (w 0)), (1, .int xn), (2, .int xk)]) hx hb dX7_crash_189 hl (k := 1) rfl ev1195.symm (by decide) rfl (fun ls hl => ?_)
                      refine lv_goto (tgt := 33) hx hb dX7_crash_192 (by decide) ?_
                      have tv1195 : v1195.toInt = y1077.toInt + 1 := by rw [ev1195, show y1077 + Int32.ofInt 1 = y1077 + 1 from rfl]; exact xinc (y := (4 : Int32)) (by rw [xk_lt, xk_4]; omega)
                      exact ih1076 _ _ _ _ _ _ _ (by omega) (by omega) (trivial) hR (hML.mono (by omega)) hMD hMU hP hD hS (lv_sub hl [0, 2, 3, 4, 5] rfl)
                    · have kc1194 : ¬ (0 ≤ x1193.toInt) := by have h9 := c1194; rw [xk_le, xk_0] at h9; exact h9
                      obtain ⟨v1196, ev1196⟩ : ∃ y : Int32, y = y1078 + Int32.ofInt 1 := ⟨_, rfl⟩
                      refine lv_iinc (v := v1196) (lv' := [(3, .int v1196), (5, .ref (w (21 + (5 * y1077.toNatClampNeg + xn.toNatClampNeg)))), (4, .int y1077), (0, .ref (w 0)), (1, .int xn), (2, .int xk)]) hx hb dX7_crash_186 hl (k := 2) rfl ev1196.symm (by decide) rfl (fun ls hl => ?_)
                      obtain ⟨v1197, ev1197⟩ : ∃ y : Int32, y = y1077 + Int32.ofInt 1 := ⟨_, rfl⟩
                      refine lv_iinc (v := v1197) (lv' := [(4, .int v1197), (3, .int v1196), (5, .ref (w (21 + (5 * y1077.toNatClampNeg + xn.toNatClampNeg)))), (0, .ref (w 0)), (1, .int xn), (2, .int xk)]) hx hb dX7_crash_189 hl (k := 2) rfl ev1197.symm (by decide) rfl (fun ls hl => ?_)
                      refine lv_goto (tgt := 33) hx hb dX7_crash_192 (by decide) ?_
                      have tv1197 : v1197.toInt = y1077.toInt + 1 := by rw [ev1197, show y1077 + Int32.ofInt 1 = y1077 + 1 from rfl]; exact xinc (y := (4 : Int32)) (by rw [xk_lt, xk_4]; omega)
                      exact ih1076 _ _ _ _ _ _ _ (by omega) (by omega) (trivial) hR (hML.mono (by omega)) hMD hMU hP hD hS (lv_sub hl [0, 1, 3, 4, 5] rfl)
            · have kc1083 : x1082.toInt = 0 := by have h9 := c1083; rw [xk_eq, xk_0] at h9; exact h9
              refine lv_goto (tgt := 189) hx hb dX7_crash_49 (by decide) ?_
              obtain ⟨v1198, ev1198⟩ : ∃ y : Int32, y = y1077 + Int32.ofInt 1 := ⟨_, rfl⟩
              refine lv_iinc (v := v1198) (lv' := [(4, .int v1198), (3, .int y1078), (0, .ref (w 0)), (1, .int xn), (2, .int xk)]) hx hb dX7_crash_189 hl (k := 0) rfl ev1198.symm (by decide) rfl (fun ls hl => ?_)
              refine lv_goto (tgt := 33) hx hb dX7_crash_192 (by decide) ?_
              have tv1198 : v1198.toInt = y1077.toInt + 1 := by rw [ev1198, show y1077 + Int32.ofInt 1 = y1077 + 1 from rfl]; exact xinc (y := (4 : Int32)) (by rw [xk_lt, xk_4]; omega)
              exact ih1076 _ _ _ _ _ _ _ (by omega) (by omega) (trivial) hR (hML.mono (by omega)) hMD hMU hP hD hS (lv_sub hl [0, 1, 2, 3, 4] rfl)
      exact hLP1076 _ _ _ _ _ _ _ _ (Nat.lt_succ_self _) (by decide) (trivial) hR (hML.mono (by omega)) hMD hMU hP hD hS (lv_sub hl [0, 1, 2, 3, 4] rfl)
    · have kc1068 : ¬ (0 ≤ xk.toInt) := by have h9 := c1068; rw [xk_le, xk_0] at h9; exact h9
      refine lv_iconst (v := (-1)) hx hb dX7_crash_12 (by decide) ?_
      exact W.iret (v := (-1)) hx hb hr (fun t ht hW => ⟨⟨(-1), (I, J), rfl, ⟨⟨hML.mono (by omega), hMD, hMU⟩, fun k hk => rfl, (by show _ = _; unfold sp_cu; rw [if_neg (fun q => c1066 (hr1064.trans q)), if_pos (by rw [xk_lt, xk_0]; omega)])⟩, by rw [ht]; exact hP, va_K.moved hW.alike hK, hD⟩, hS.F ht⟩) hS.2.2 dX7_crash_13
