set_option maxHeartbeats 4000000 in
set_option maxRecDepth 100000 in
/-- owner, exactly -/
theorem e_X7_owner (l : Launch) (dC : Nat → ClassId) (dI : Nat → Nat → Nat) (cy : Nat → ClassId) (w : Nat → Nat) (L : List Nat) (K N : Nat → Nat) (T : Nat → Nat → Nat) (Q : Nat → Nat → Option Nat) (I J : Nat → Nat → Int32) (xg : Int32) (xp : Int32) (hM : MS w L K N T Q) : Met l yX7_owner wsX7_owner ({ frames := 2, cells := 0, slots := 0, locals := 50 }) (va_Pc [.ref (w 0), .int xg, .int xp] (mB dC dI cy L (wF cy K N T I Q J))) (vp_Si (fun r => r = sp_own (J (w 13) xg.toNatClampNeg) (fun q => zN (J (w 2) q)) xg xp)) 0 0 (fun _ => False) := by
  refine Met.ofW (cc := cX7_owner) (maxL := 6) (ret := (some .int)) (by decide) rfl ?_
  intro p e s m args below meth c s₁ B hml hv
  obtain ⟨rfl, hP, hK⟩ := hv
  have hx := B.exec
  have hb := B.bytes
  have hr := B.returns
  have hts := atoms_spec (ws := wsX7_owner) B.pre
  have hown : s.vm.findClass RX7 = some m.cls := findClass_of_methodNamed B.named
  have hlocks := B.notSynchronized
  have hi7 : ∀ w ∈ wsX70, w ∈ wsX7_owner := by decide +kernel
  have hl := lv_entry ([.ref (w 0), .int xg, .int xp]) (n := 6) (Nat.le_of_ble_eq_true rfl)
  rw [lg_entry_eq]
  generalize (lg_sl ([.ref (w 0), .int xg, .int xp]) ++ List.replicate (6 - (lg_sl ([.ref (w 0), .int xg, .int xp])).length) Slot.unset).toArray = ls at hl ⊢
  have hl : lv_has ls 6 [(0, .ref (w 0)), (1, .int xg), (2, .int xp)] := hl
  refine lv_iload_n hx hb dX7_owner_0 rfl (lv_at hl 1 rfl) ?_
  refine lv_i2l (v := xg.toInt64) hx hb dX7_owner_1 rfl ?_
  refine lv_lconst (v := 0) hx hb dX7_owner_2 (by decide) ?_
  refine lv_ldc2 hx hb hown (hts (.constantLong RX7 80 3) (by decide +kernel)) dX7_owner_3 ?_
  refine vp_callSi (W.runS (As := [.long xg.toInt64, .long 0, .long 3]) (rest := []) ⟨hx, hb, hml, hown, hts⟩ (c_X7_in l xg.toInt64 0 3) (va_cwS 3 hts gX7_owner_X7_in rfl rfl rfl (by decide +kernel) ⟨Nat.le_of_ble_eq_true rfl, Nat.le_of_ble_eq_true rfl⟩) preEq rfl rfl hl.1 rfl (lv_room (Nat.le_of_ble_eq_true rfl)) dX7_owner_6 ⟨Nat.le_of_ble_eq_true rfl, Nat.le_of_ble_eq_true rfl⟩) (fun r200064 hr200064 => ?_)
  subst hr200064
  refine lv_if_eq (tgt := 20) hx hb dX7_owner_9 (by decide) (fun c200065 => ?_) (fun c200065 => ?_)
  · refine lv_iconst (v := (-1)) hx hb dX7_owner_20 (by decide) ?_
    exact W.iret (v := (-1)) hx hb hr (fun t ht hW => ⟨(-1), rfl, by show _ = _; have kc200065 := (sp_in_0 xg 0 3).mp c200065; simp only [xk_eq, Int32.toInt_toInt64, xk_lt, xk_le, xk_0, xk_1, xk_2, xk_3, xk_4, xk_5, xk_6, xk_7, xk_8, xk_50, xl_0, xl_1, xl_3, xl_4, xl_5, xl_6, xl_7, xl_50] at kc200065; rw [sp_own, if_neg (fun q => by omega)], ht⟩) (fun _ h => by cases h) dX7_owner_21
  · have hin200066 : vp_in xg 4 := xin_sp c200065 (by decide)
    refine lv_aload_n hx hb dX7_owner_12 rfl (lv_at hl 0 rfl) ?_
    refine lv_iload_n hx hb dX7_owner_13 rfl (lv_at hl 2 rfl) ?_
    obtain ⟨j200068, hj200068⟩ := wG_7 (cy := cy) (N := N) (T := T) (I := I) (Q := Q) (J := J) (hM.at 0 (by decide)) (hM.k 0 (by decide) rfl)
    refine vp_callSi (W.runV (As := [.int xp]) (rest := []) ⟨hx, hb, hml, hown, hts⟩ (c_X7_isThere l dC dI cy w L K N T Q I J xp hM) (cwV 1 hts gX7_owner_X7_isThere rfl rfl rfl (by decide +kernel) ⟨Nat.le_of_ble_eq_true rfl, Nat.le_of_ble_eq_true rfl⟩) ⟨mb_blind, va_recv hK hP (ci := 7) (q0 := j200068) rfl hj200068, fun U hU hW => ⟨rfl, mb_pre hP hK hU hW⟩⟩ rfl rfl hl.1 rfl (lv_room (Nat.le_of_ble_eq_true rfl)) dX7_owner_14 ⟨Nat.le_of_ble_eq_true rfl, Nat.le_of_ble_eq_true rfl⟩) (fun r200067 hr200067 => ?_)
    refine lv_if_ne (tgt := 22) hx hb dX7_owner_17 (by decide) (fun c200069 => ?_) (fun c200069 => ?_)
    · have hth200070 := sp_it1 (by rw [← hr200067]; exact c200069)
      have kc200069 : ¬ (r200067.toInt = 0) := by have h9 := c200069; rw [xk_eq, xk_0] at h9; exact h9
      obtain ⟨pj, hpj, hxp⟩ := vp_in_of hth200070.1 (by decide)
      refine lv_aload_n hx hb dX7_owner_22 rfl (lv_at hl 0 rfl) ?_
      obtain ⟨j200071, hj200071⟩ := wG_7 (cy := cy) (N := N) (T := T) (I := I) (Q := Q) (J := J) (hM.at 0 (by decide)) (hM.k 0 (by decide) rfl)
      refine va_get (D := (dC, dI)) (ci := 7) (v := .ref (T (w 0) 12)) (C := RX7) (T := TX7) (N := 18) hx hb hts hi7 hown hK hP j200071 hj200071 rfl 12 (by decide) (hts (.fieldLink RX7 49 "TallyLogsModel" "members" "[I") (by decide +kernel)) (fun _ h9 => h9) rfl dX7_owner_23 ?_
      refine W.eq (g2 := F0 m 26 ls [.ref (w 13)]) (by rw [hM.t 12 (by decide)]) ?_
      refine lv_iload_n hx hb dX7_owner_26 rfl (lv_at hl 1 rfl) ?_
      obtain ⟨j200072, hj200072⟩ := wG_20 (cy := cy) (N := N) (T := T) (I := I) (Q := Q) (J := J) (hM.at 13 (by decide)) (hM.k 13 (by decide) rfl)
      refine va_iald hx hb hK hP j200072 1 hj200072 rfl (hM.inN (n := 4) 13 (by decide) rfl rfl hin200066) dX7_owner_27 ?_
      refine lv_topi (fun x200073 ex200073 => ?_)
      refine vp_callSi (W.runS (As := [.int x200073]) (rest := []) ⟨hx, hb, hml, hown, hts⟩ (c_J6_bitCount_0f7a4 l x200073) (va_cwS 1 hts gX7_owner_J6_bitCount_0f7a4 rfl rfl rfl (by decide +kernel) ⟨Nat.le_of_ble_eq_true rfl, Nat.le_of_ble_eq_true rfl⟩) preEq rfl rfl hl.1 rfl (lv_room (Nat.le_of_ble_eq_true rfl)) dX7_owner_28 ⟨Nat.le_of_ble_eq_true rfl, Nat.le_of_ble_eq_true rfl⟩) (fun r200074 hr200074 => ?_)
      subst hr200074
      refine lv_istore_n (lv' := [(3, .int (sp_bc x200073)), (0, .ref (w 0)), (1, .int xg), (2, .int xp)]) hx hb dX7_owner_31 rfl hl (by decide) rfl (fun ls hl => ?_)
      refine lv_iconst (v := 0) hx hb dX7_owner_32 (by decide) ?_
      refine lv_istore (lv' := [(4, .int 0), (3, .int (sp_bc x200073)), (0, .ref (w 0)), (1, .int xg), (2, .int xp)]) hx hb dX7_owner_33 hl (by decide) rfl (fun ls hl => ?_)
      refine lv_iload_n hx hb dX7_owner_35 rfl (lv_at hl 1 rfl) ?_
      refine lv_if_ne (tgt := 42) hx hb dX7_owner_36 (by decide) (fun c200075 => ?_) (fun c200075 => ?_)
      · have kc200075 : ¬ ((sp_bc x200073).toInt = 0) := by have h9 := c200075; rw [xk_eq, xk_0] at h9; exact h9
        refine lv_iconst (v := 0) hx hb dX7_owner_42 (by decide) ?_
        refine lv_istore (lv' := [(5, .int 0), (4, .int 0), (3, .int (sp_bc x200073)), (0, .ref (w 0)), (1, .int xg), (2, .int xp)]) hx hb dX7_owner_43 hl (by decide) rfl (fun ls hl => ?_)
        refine wq_gen (fun Qz hQz => ?_)
        have hLP : ∀ (n k : Nat) (ls : Array Slot), pj - k < n → k ≤ pj → lv_has ls 6 [(5, .int (nI k)), (4, .int (sp_cnt (fun q => zN (J (w 2) q)) k)), (3, .int (sp_bc x200073)), (2, .int xp), (1, .int xg), (0, .ref (w 0))] → W p l e (headSpec wsX7_owner ({ frames := 2, cells := 0, slots := 0, locals := 50 })).room s m ([.ref (w 0), .int xg, .int xp] : List Value).toArray below meth c s.heap [] 0 0 Qz (F0 m 45 ls []) := by
          intro n
          induction n with
          | zero => intro k ls hms; exact absurd hms (Nat.not_lt_zero _)
          | succ n ih =>
            intro k ls hms hkb hl
            refine lv_iload hx hb dX7_owner_45 (lv_at hl 0 rfl) ?_
            refine lv_iload_n hx hb dX7_owner_47 rfl (lv_at hl 3 rfl) ?_
            refine lv_icmp_ge (tgt := 70) hx hb dX7_owner_48 (by decide) (fun c200076 => ?_) (fun c200076 => ?_)
            · have kc200076 : xp.toInt ≤ (nI k).toInt := by have h9 := c200076; rw [xk_le] at h9; exact h9
              obtain rfl : k = pj := by have k9 := c200076; rw [hxp, nI_leI (by omega) (by omega)] at k9; omega
              refine lv_iload hx hb dX7_owner_70 (lv_at hl 1 rfl) ?_
              refine lv_iload_n hx hb dX7_owner_72 rfl (lv_at hl 2 rfl) ?_
              refine lv_irem hx hb dX7_owner_73 c200075 ?_
              refine lv_topi (fun v200077 ev200077 => ?_)
              refine lv_istore (lv' := [(4, .int v200077), (5, .int (nI k)), (3, .int (sp_bc x200073)), (2, .int xp), (1, .int xg), (0, .ref (w 0))]) hx hb dX7_owner_74 hl (by decide) rfl (fun ls hl => ?_)
              refine lv_iconst (v := 0) hx hb dX7_owner_76 (by decide) ?_
              refine lv_istore (lv' := [(5, .int 0), (4, .int v200077), (3, .int (sp_bc x200073)), (2, .int xp), (1, .int xg), (0, .ref (w 0))]) hx hb dX7_owner_77 hl (by decide) rfl (fun ls hl => ?_)
              have hLQ : ∀ (n i : Nat) (yv : Int32) (ls : Array Slot), i + n = 8 → sp_ml (J (w 13) xg.toNatClampNeg) n i yv = sp_ma (J (w 13) xg.toNatClampNeg) (sp_cnt (fun q => zN (J (w 2) q)) k) → lv_has ls 6 [(5, .int (nI i)), (4, .int yv), (3, .int (sp_bc x200073)), (2, .int xp), (1, .int xg), (0, .ref (w 0))] → W p l e (headSpec wsX7_owner ({ frames := 2, cells := 0, slots := 0, locals := 50 })).room s m ([.ref (w 0), .int xg, .int xp] : List Value).toArray below meth c s.heap [] 0 0 Qz (F0 m 79 ls []) := by
                intro n
                induction n with
                | zero =>
                  intro i yv ls hi hR hl
                  obtain rfl : i = 8 := by omega
                  refine lv_iload hx hb dX7_owner_79 (lv_at hl 0 rfl) ?_
                  refine lv_bipush (v := 8) hx hb dX7_owner_81 (by decide) ?_
                  refine lv_icmp_ge (tgt := 120) hx hb dX7_owner_83 (by decide) (fun c200078 => ?_) (fun c200078 => ?_)
                  rotate_left
                  · exact absurd (by decide) c200078
                  refine lv_bipush (v := (-2)) hx hb dX7_owner_120 (by decide) ?_
                  rw [hQz]
                  exact W.iret (v := (-2)) hx hb hr (fun t ht hW => ⟨(-2), rfl, by show _ = _; have kc200065 := (not_congr (sp_in_0 xg 0 3)).mp c200065; simp only [xk_eq, Int32.toInt_toInt64, xk_lt, xk_le, xk_0, xk_1, xk_2, xk_3, xk_4, xk_5, xk_6, xk_7, xk_8, xk_50, xl_0, xl_1, xl_3, xl_4, xl_5, xl_6, xl_7, xl_50] at kc200065; have h8 := vp_in_iff.mp hth200070.1; rw [sp_own, if_pos ⟨by omega, by omega⟩, if_pos ⟨by omega, by omega⟩, if_neg (fun q => hth200070.2 (zN_0.mp q)), show xp.toNatClampNeg = k by rw [hxp, nI_clamp (by omega)], ← hR]; rfl, ht⟩) (fun _ h => by cases h) dX7_owner_122
                | succ n ih =>
                  intro i yv ls hi hR hl
                  refine lv_iload hx hb dX7_owner_79 (lv_at hl 0 rfl) ?_
                  refine lv_bipush (v := 8) hx hb dX7_owner_81 (by decide) ?_
                  refine lv_icmp_ge (tgt := 120) hx hb dX7_owner_83 (by decide) (fun c200079 => ?_) (fun c200079 => ?_)
                  · exact absurd c200079 (nI_ge (b := 8) (by omega) (by decide))
                  refine lv_aload_n hx hb dX7_owner_86 rfl (lv_at hl 5 rfl) ?_
                  obtain ⟨j200080, hj200080⟩ := wG_7 (cy := cy) (N := N) (T := T) (I := I) (Q := Q) (J := J) (hM.at 0 (by decide)) (hM.k 0 (by decide) rfl)
                  refine va_get (D := (dC, dI)) (ci := 7) (v := .ref (T (w 0) 12)) (C := RX7) (T := TX7) (N := 18) hx hb hts hi7 hown hK hP j200080 hj200080 rfl 12 (by decide) (hts (.fieldLink RX7 49 "TallyLogsModel" "members" "[I") (by decide +kernel)) (fun _ h9 => h9) rfl dX7_owner_87 ?_
                  refine W.eq (g2 := F0 m 90 ls [.ref (w 13)]) (by rw [hM.t 12 (by decide)]) ?_
                  refine lv_iload_n hx hb dX7_owner_90 rfl (lv_at hl 4 rfl) ?_
                  obtain ⟨j200081, hj200081⟩ := wG_20 (cy := cy) (N := N) (T := T) (I := I) (Q := Q) (J := J) (hM.at 13 (by decide)) (hM.k 13 (by decide) rfl)
                  refine va_iald hx hb hK hP j200081 1 hj200081 rfl (hM.inN (n := 4) 13 (by decide) rfl rfl hin200066) dX7_owner_91 ?_
                  refine lv_topi (fun x200082 ex200082 => ?_)
                  refine lv_iload hx hb dX7_owner_92 (lv_at hl 0 rfl) ?_
                  refine lv_ishr hx hb dX7_owner_94 ?_
                  refine lv_topi (fun v200083 ev200083 => ?_)
                  refine lv_iconst (v := 1) hx hb dX7_owner_95 (by decide) ?_
                  refine lv_iand hx hb dX7_owner_96 ?_
                  refine lv_topi (fun v200084 ev200084 => ?_)
                  refine lv_if_ne (tgt := 103) hx hb dX7_owner_97 (by decide) (fun c200085 => ?_) (fun c200085 => ?_)
                  · have kc200085 : ¬ (v200084.toInt = 0) := by have h9 := c200085; rw [xk_eq, xk_0] at h9; exact h9
                    refine lv_iload hx hb dX7_owner_103 (lv_at hl 1 rfl) ?_
                    refine lv_if_ne (tgt := 111) hx hb dX7_owner_105 (by decide) (fun c200086 => ?_) (fun c200086 => ?_)
                    · have kc200086 : ¬ (yv.toInt = 0) := by have h9 := c200086; rw [xk_eq, xk_0] at h9; exact h9
                      obtain ⟨v200087, ev200087⟩ : ∃ y : Int32, y = yv + Int32.ofInt (-1) := ⟨_, rfl⟩
                      refine lv_iinc (v := v200087) (lv' := [(4, .int v200087), (5, .int (nI i)), (3, .int (sp_bc x200073)), (2, .int xp), (1, .int xg), (0, .ref (w 0))]) hx hb dX7_owner_111 hl (k := 1) rfl ev200087.symm (by decide) rfl (fun ls hl => ?_)
                      obtain ⟨v200088, ev200088⟩ : ∃ y : Int32, y = (nI i) + Int32.ofInt 1 := ⟨_, rfl⟩
                      refine lv_iinc (v := v200088) (lv' := [(5, .int v200088), (4, .int v200087), (3, .int (sp_bc x200073)), (2, .int xp), (1, .int xg), (0, .ref (w 0))]) hx hb dX7_owner_114 hl (k := 1) rfl ev200088.symm (by decide) rfl (fun ls hl => ?_)
                      refine lv_goto (tgt := 79) hx hb dX7_owner_117 (by decide) ?_
                      obtain rfl : v200088 = nI (i + 1) := ev200088.trans (nI_add i 1)
                      exact ih (i + 1) v200087 _ (by omega) (by rw [← hR, ev200087, xm1]; exact (sp_ml_2 (xbit _ (by have k9 := c200085; rw [ev200084, ev200083, ex200082] at k9; exact k9)) c200086).symm) (lv_sub hl [0, 1, 2, 3, 4, 5] rfl)
                    · have kc200086 : yv.toInt = 0 := by have h9 := c200086; rw [xk_eq, xk_0] at h9; exact h9
                      refine lv_iload hx hb dX7_owner_108 (lv_at hl 0 rfl) ?_
                      rw [hQz]
                      exact W.iret (v := (nI i)) hx hb hr (fun t ht hW => ⟨(nI i), rfl, by show _ = _; have kc200065 := (not_congr (sp_in_0 xg 0 3)).mp c200065; have kc200086 := c200086; simp only [xk_eq, Int32.toInt_toInt64, xk_lt, xk_le, xk_0, xk_1, xk_2, xk_3, xk_4, xk_5, xk_6, xk_7, xk_8, xk_50, xl_0, xl_1, xl_3, xl_4, xl_5, xl_6, xl_7, xl_50] at kc200065 kc200086; have h8 := vp_in_iff.mp hth200070.1; rw [sp_own, if_pos ⟨by omega, by omega⟩, if_pos ⟨by omega, by omega⟩, if_neg (fun q => hth200070.2 (zN_0.mp q)), show xp.toNatClampNeg = k by rw [hxp, nI_clamp (by omega)], ← hR, sp_ml_1 (xbit _ (by have k9 := c200085; rw [ev200084, ev200083, ex200082] at k9; exact k9)) c200086, sp_ow1_k (by omega)], ht⟩) (fun _ h => by cases h) dX7_owner_110
                  · have kc200085 : v200084.toInt = 0 := by have h9 := c200085; rw [xk_eq, xk_0] at h9; exact h9
                    refine lv_goto (tgt := 114) hx hb dX7_owner_100 (by decide) ?_
                    obtain ⟨v200089, ev200089⟩ : ∃ y : Int32, y = (nI i) + Int32.ofInt 1 := ⟨_, rfl⟩
                    refine lv_iinc (v := v200089) (lv' := [(5, .int v200089), (4, .int yv), (3, .int (sp_bc x200073)), (2, .int xp), (1, .int xg), (0, .ref (w 0))]) hx hb dX7_owner_114 hl (k := 0) rfl ev200089.symm (by decide) rfl (fun ls hl => ?_)
                    refine lv_goto (tgt := 79) hx hb dX7_owner_117 (by decide) ?_
                    obtain rfl : v200089 = nI (i + 1) := ev200089.trans (nI_add i 1)
                    exact ih (i + 1) yv _ (by omega) (by rw [← hR]; exact (sp_ml_3 (xiff0 (by have k9 := c200085; rw [ev200084, ev200083, ex200082] at k9; exact k9))).symm) (lv_sub hl [0, 1, 2, 3, 4, 5] rfl)
              exact hLQ 8 0 _ _ rfl (by rw [sp_ma, if_neg (fun q => c200075 (by rw [ex200073]; exact q)), ev200077, ex200073]) (lv_sub hl [0, 1, 2, 3, 4, 5] rfl)
            · have kc200076 : ¬ (xp.toInt ≤ (nI k).toInt) := by have h9 := c200076; rw [xk_le] at h9; exact h9
              refine lv_aload_n hx hb dX7_owner_51 rfl (lv_at hl 5 rfl) ?_
              obtain ⟨j200090, hj200090⟩ := wG_7 (cy := cy) (N := N) (T := T) (I := I) (Q := Q) (J := J) (hM.at 0 (by decide)) (hM.k 0 (by decide) rfl)
              refine va_get (D := (dC, dI)) (ci := 7) (v := .ref (T (w 0) 1)) (C := RX7) (T := TX7) (N := 18) hx hb hts hi7 hown hK hP j200090 hj200090 rfl 1 (by decide) (hts (.fieldLink RX7 14 "TallyLogsModel" "there" "[Z") (by decide +kernel)) (fun _ h9 => h9) rfl dX7_owner_52 ?_
              refine W.eq (g2 := F0 m 55 ls [.ref (w 2)]) (by rw [hM.t 1 (by decide)]) ?_
              refine lv_iload hx hb dX7_owner_55 (lv_at hl 0 rfl) ?_
              obtain ⟨j200091, hj200091⟩ := wG_21 (cy := cy) (N := N) (T := T) (I := I) (Q := Q) (J := J) (hM.at 2 (by decide)) (hM.k 2 (by decide) rfl)
              refine va_zald hx hb hK hP j200091 0 hj200091 rfl (nI_in (by omega) (by decide)) dX7_owner_57 ?_
              refine lv_topi (fun x200092 ex200092 => ?_)
              refine lv_if_eq (tgt := 64) hx hb dX7_owner_58 (by decide) (fun c200093 => ?_) (fun c200093 => ?_)
              · have kc200093 : x200092.toInt = 0 := by have h9 := c200093; rw [xk_eq, xk_0] at h9; exact h9
                obtain ⟨v200094, ev200094⟩ : ∃ y : Int32, y = (nI k) + Int32.ofInt 1 := ⟨_, rfl⟩
                refine lv_iinc (v := v200094) (lv' := [(5, .int v200094), (4, .int (sp_cnt (fun q => zN (J (w 2) q)) k)), (3, .int (sp_bc x200073)), (2, .int xp), (1, .int xg), (0, .ref (w 0))]) hx hb dX7_owner_64 hl (k := 0) rfl ev200094.symm (by decide) rfl (fun ls hl => ?_)
                refine lv_goto (tgt := 45) hx hb dX7_owner_67 (by decide) ?_
                have hlt : k < pj := by have k9 := c200076; rw [hxp, nI_leI (by omega) (by omega)] at k9; omega
                obtain rfl : v200094 = nI (k + 1) := ev200094.trans (nI_add k 1)
                have e9 : sp_cnt (fun q => zN (J (w 2) q)) (k + 1) = sp_cnt (fun q => zN (J (w 2) q)) k := by show sp_cnt _ k + zN (J (w 2) k) = _; rw [zN_0.mpr (by have k9 := c200093; rw [ex200092, nI_clamp (by omega)] at k9; exact k9), Int32.add_zero]
                rw [← e9] at hl
                exact ih (k + 1) _ (by omega) (by omega) (lv_sub hl [0, 1, 2, 3, 4, 5] rfl)
              · have kc200093 : ¬ (x200092.toInt = 0) := by have h9 := c200093; rw [xk_eq, xk_0] at h9; exact h9
                obtain ⟨v200095, ev200095⟩ : ∃ y : Int32, y = (sp_cnt (fun q => zN (J (w 2) q)) k) + Int32.ofInt 1 := ⟨_, rfl⟩
                refine lv_iinc (v := v200095) (lv' := [(4, .int v200095), (5, .int (nI k)), (3, .int (sp_bc x200073)), (2, .int xp), (1, .int xg), (0, .ref (w 0))]) hx hb dX7_owner_61 hl (k := 1) rfl ev200095.symm (by decide) rfl (fun ls hl => ?_)
                obtain ⟨v200096, ev200096⟩ : ∃ y : Int32, y = (nI k) + Int32.ofInt 1 := ⟨_, rfl⟩
                refine lv_iinc (v := v200096) (lv' := [(5, .int v200096), (4, .int v200095), (3, .int (sp_bc x200073)), (2, .int xp), (1, .int xg), (0, .ref (w 0))]) hx hb dX7_owner_64 hl (k := 1) rfl ev200096.symm (by decide) rfl (fun ls hl => ?_)
                refine lv_goto (tgt := 45) hx hb dX7_owner_67 (by decide) ?_
                have hlt : k < pj := by have k9 := c200076; rw [hxp, nI_leI (by omega) (by omega)] at k9; omega
                obtain rfl : v200096 = nI (k + 1) := ev200096.trans (nI_add k 1)
                obtain rfl : v200095 = sp_cnt (fun q => zN (J (w 2) q)) (k + 1) := by rw [ev200095]; show _ = sp_cnt _ k + zN (J (w 2) k); rw [show zN (J (w 2) k) = 1 from if_neg (by have k9 := c200093; rw [ex200092, nI_clamp (by omega)] at k9; exact k9)]; rfl
                exact ih (k + 1) _ (by omega) (by omega) (lv_sub hl [0, 1, 2, 3, 4, 5] rfl)
        exact hLP _ 0 _ (Nat.lt_succ_self _) (Nat.zero_le _) (lv_sub hl [0, 1, 2, 5, 4, 3] rfl)
      · have kc200075 : (sp_bc x200073).toInt = 0 := by have h9 := c200075; rw [xk_eq, xk_0] at h9; exact h9
        refine lv_bipush (v := (-2)) hx hb dX7_owner_39 (by decide) ?_
        exact W.iret (v := (-2)) hx hb hr (fun t ht hW => ⟨(-2), rfl, by show _ = _; have kc200065 := (not_congr (sp_in_0 xg 0 3)).mp c200065; simp only [xk_eq, Int32.toInt_toInt64, xk_lt, xk_le, xk_0, xk_1, xk_2, xk_3, xk_4, xk_5, xk_6, xk_7, xk_8, xk_50, xl_0, xl_1, xl_3, xl_4, xl_5, xl_6, xl_7, xl_50] at kc200065; have h8 := vp_in_iff.mp hth200070.1; rw [sp_own, if_pos ⟨by omega, by omega⟩, if_pos ⟨by omega, by omega⟩, if_neg (fun q => hth200070.2 (zN_0.mp q)), sp_ma, if_pos (by rw [← ex200073]; exact c200075)]; rfl, ht⟩) (fun _ h => by cases h) dX7_owner_41
    · have kc200069 : r200067.toInt = 0 := by have h9 := c200069; rw [xk_eq, xk_0] at h9; exact h9
      refine lv_iconst (v := (-1)) hx hb dX7_owner_20 (by decide) ?_
      exact W.iret (v := (-1)) hx hb hr (fun t ht hW => ⟨(-1), rfl, by show _ = _; have kc200065 := (not_congr (sp_in_0 xg 0 3)).mp c200065; simp only [xk_eq, Int32.toInt_toInt64, xk_lt, xk_le, xk_0, xk_1, xk_2, xk_3, xk_4, xk_5, xk_6, xk_7, xk_8, xk_50, xl_0, xl_1, xl_3, xl_4, xl_5, xl_6, xl_7, xl_50] at kc200065; have h9 := sp_it0 (hr200067.symm.trans c200069); rw [sp_own, if_pos ⟨by omega, by omega⟩]; by_cases hp : 0 ≤ xp.toInt ∧ xp.toInt < 4; (rw [if_pos hp, if_pos (zN_0.mpr (Classical.byContradiction fun q => h9 ⟨hp.1, hp.2, q⟩))]); rw [if_neg hp], ht⟩) (fun _ h => by cases h) dX7_owner_21
