theorem sp_lz (x : Int32) (h : ¬ x &&& 31 = 0) : sp_nz (x &&& 31) = sp_lo (x &&& 31) := by
  obtain ⟨j, hj, e⟩ := pk_andE x (m := 31) 5 (by decide)
  rw [e] at h ⊢
  exact (sp_lo_nz j hj h).symm
set_option maxHeartbeats 4000000 in
set_option maxRecDepth 100000 in
/-- create -/
theorem c_X7_create (l : Launch) (dC : Nat → ClassId) (dI : Nat → Nat → Nat) (w : Nat → Nat) (cz ci : ClassId) (u : Nat → Nat) (cO cW : ClassId) (sz : Nat) (xp : Int32) (xr : Int32) (xm : Int32) : Met l yX7_create wsX7_create ({ frames := 1, cells := 0, slots := 0, locals := 25 }) (va_Pc [.ref (w 0), .int xp, .int xr, .int xm] (fun U => U.heap.size = sz ∧ (va_P (dC, dI) vwCl (mxW w cz ci ++ lgW w u cO cW) U.heap ∧ va_K (dC, dI) vwCl (mxT2 cz ci cO cW) U) ∧ va_D (fun _ => True) (mxW w cz ci ++ lgW w u cO cW))) (va_Qi (fun (r : Int32) (_ : Unit) => r = sp_ce xp xr xm) (fun _ _ => True) (va_A (mxW w cz ci ++ lgW w u cO cW) sz)) 0 0 (va_A (mxW w cz ci ++ lgW w u cO cW) sz) := by
  refine Met.ofW (cc := cX7_create) (maxL := 6) (ret := (some .int)) (by decide) rfl ?_
  intro p e s m args below meth c s₁ B hml hv
  obtain ⟨rfl, hsz, ⟨hP, hK⟩, hD0⟩ := hv
  have hx := B.exec
  have hb := B.bytes
  have hr := B.returns
  have hts := atoms_spec (ws := wsX7_create) B.pre
  have hown : s.vm.findClass RX7 = some m.cls := findClass_of_methodNamed B.named
  have hlocks := B.notSynchronized
  have hi7 : ∀ w ∈ wsX70, w ∈ wsX7_create := by decide +kernel
  have hi6 : ∀ w ∈ wsX60, w ∈ wsX7_create := by decide +kernel
  have hl := lv_entry ([.ref (w 0), .int xp, .int xr, .int xm]) (n := 6) (Nat.le_of_ble_eq_true rfl)
  rw [lg_entry_eq]
  generalize (lg_sl ([.ref (w 0), .int xp, .int xr, .int xm]) ++ List.replicate (6 - (lg_sl ([.ref (w 0), .int xp, .int xr, .int xm])).length) Slot.unset).toArray = ls at hl ⊢
  have hl : lv_has ls 6 [(0, .ref (w 0)), (1, .int xp), (2, .int xr), (3, .int xm)] := hl
  subst hsz
  have hD := hD0.self (sz := s.heap.size)
  generalize hAe : va_A (mxW w cz ci ++ lgW w u cO cW) s.heap.size = A at hD ⊢
  have hA : ∀ q : Nat, s.heap.size ≤ q → A q := fun q h => by rw [← hAe]; exact Or.inr h
  have hS : va_S A s.heap s.heap [] := va_S.rf
  refine lv_iload_n hx hb dX7_create_0 rfl (lv_at hl 2 rfl) ?_
  refine lv_bipush (v := 31) hx hb dX7_create_1 (by decide) ?_
  refine lv_iand hx hb dX7_create_3 ?_
  refine lv_topi (fun v555 ev555 => ?_)
  refine lv_istore (lv' := [(4, .int v555), (0, .ref (w 0)), (1, .int xp), (2, .int xr), (3, .int xm)]) hx hb dX7_create_4 hl (by decide) rfl (fun ls hl => ?_)
  refine lv_iload_n hx hb dX7_create_6 rfl (lv_at hl 2 rfl) ?_
  refine lv_i2l (v := xp.toInt64) hx hb dX7_create_7 rfl ?_
  refine lv_lconst (v := 0) hx hb dX7_create_8 (by decide) ?_
  refine lv_ldc2 hx hb hown (hts (.constantLong RX7 80 3) (by decide +kernel)) dX7_create_9 ?_
  refine vp_callSi (W.runS (As := [.long xp.toInt64, .long 0, .long 3]) (rest := []) ⟨hx, hb, hml, hown, hts⟩ (c_X7_in l xp.toInt64 0 3) (va_cwS 3 hts gX7_create_X7_in rfl rfl rfl (by decide +kernel) ⟨Nat.le_of_ble_eq_true rfl, Nat.le_of_ble_eq_true rfl⟩) preEq rfl rfl hl.1 rfl (lv_room (Nat.le_of_ble_eq_true rfl)) dX7_create_12 ⟨Nat.le_of_ble_eq_true rfl, Nat.le_of_ble_eq_true rfl⟩) (fun r556 hr556 => ?_)
  subst hr556
  refine lv_if_eq (tgt := 42) hx hb dX7_create_15 (by decide) (fun c557 => ?_) (fun c557 => ?_)
  · refine lv_iconst (v := (-1)) hx hb dX7_create_42 (by decide) ?_
    exact W.iret (v := (-1)) hx hb hr (fun t ht hW => ⟨⟨(-1), (), rfl, by show _ = _; subst ev555; have kc557 := (sp_in_0 xp 0 3).mp c557; simp only [xk_eq, Int32.toInt_toInt64, xk_lt, xk_le, xk_0, xk_1, xk_2, xk_3, xk_4, xk_5, xk_6, xk_7, xk_8, xk_50, xl_0, xl_1, xl_3, xl_4, xl_5, xl_6, xl_7, xl_50] at kc557; unfold sp_ce; (repeat' split); all_goals first | rfl | omega | (exfalso; omega) | contradiction, trivial⟩, hS.F ht⟩) hS.2.2 dX7_create_43
  · refine lv_aload_n hx hb dX7_create_18 rfl (lv_at hl 1 rfl) ?_
    refine va_get (D := (dC, dI)) (ci := 7) (v := .ref (w 2)) (C := RX7) (T := TX7) (N := 18) hx hb hts hi7 hown hK hP 0 rfl rfl 1 (by decide) (hts (.fieldLink RX7 14 "TallyLogsModel" "there" "[Z") (by decide +kernel)) (fun _ h9 => h9) rfl dX7_create_19 ?_
    refine lv_iload_n hx hb dX7_create_22 rfl (lv_at hl 2 rfl) ?_
    have hin558 : vp_in xp 4 := xin_of (by have kc557 := (not_congr (sp_in_0 xp 0 3)).mp c557; simp only [xk_eq, Int32.toInt_toInt64, xk_lt, xk_le, xk_0, xk_1, xk_2, xk_3, xk_4, xk_5, xk_6, xk_7, xk_8, xk_50, xl_0, xl_1, xl_3, xl_4, xl_5, xl_6, xl_7, xl_50] at kc557; omega) (by have kc557 := (not_congr (sp_in_0 xp 0 3)).mp c557; simp only [xk_eq, Int32.toInt_toInt64, xk_lt, xk_le, xk_0, xk_1, xk_2, xk_3, xk_4, xk_5, xk_6, xk_7, xk_8, xk_50, xl_0, xl_1, xl_3, xl_4, xl_5, xl_6, xl_7, xl_50] at kc557; omega)
    refine va_zald hx hb hK hP 1 0 rfl rfl hin558 dX7_create_23 ?_
    refine W.eq (g2 := F0 m 24 ls [.int 0]) rfl ?_
    refine lv_if_ne (tgt := 42) hx hb dX7_create_24 (by decide) (fun c559 => ?_) (fun c559 => ?_)
    · exact absurd c559 (by decide)
    refine lv_iload_n hx hb dX7_create_27 rfl (lv_at hl 4 rfl) ?_
    refine lv_i2l (v := xm.toInt64) hx hb dX7_create_28 rfl ?_
    refine lv_lconst (v := 1) hx hb dX7_create_29 (by decide) ?_
    refine lv_iload hx hb dX7_create_30 (lv_at hl 0 rfl) ?_
    refine vp_callSi (W.runS (As := [.int v555]) (rest := [.long 1, .long xm.toInt64]) ⟨hx, hb, hml, hown, hts⟩ (c_J6_bitCount_0f7a4 l v555) (va_cwS 1 hts gX7_create_J6_bitCount_0f7a4 rfl rfl rfl (by decide +kernel) ⟨Nat.le_of_ble_eq_true rfl, Nat.le_of_ble_eq_true rfl⟩) preEq rfl rfl hl.1 rfl (lv_room (Nat.le_of_ble_eq_true rfl)) dX7_create_32 ⟨Nat.le_of_ble_eq_true rfl, Nat.le_of_ble_eq_true rfl⟩) (fun r560 hr560 => ?_)
    subst hr560
    refine lv_i2l (v := (sp_bc v555).toInt64) hx hb dX7_create_35 rfl ?_
    refine vp_callSi (W.runS (As := [.long xm.toInt64, .long 1, .long ((sp_bc v555).toInt64)]) (rest := []) ⟨hx, hb, hml, hown, hts⟩ (c_X7_in l xm.toInt64 1 ((sp_bc v555).toInt64)) (va_cwS 3 hts gX7_create_X7_in rfl rfl rfl (by decide +kernel) ⟨Nat.le_of_ble_eq_true rfl, Nat.le_of_ble_eq_true rfl⟩) preEq rfl rfl hl.1 rfl (lv_room (Nat.le_of_ble_eq_true rfl)) dX7_create_36 ⟨Nat.le_of_ble_eq_true rfl, Nat.le_of_ble_eq_true rfl⟩) (fun r561 hr561 => ?_)
    subst hr561
    refine lv_if_ne (tgt := 44) hx hb dX7_create_39 (by decide) (fun c562 => ?_) (fun c562 => ?_)
    · refine lv_iload hx hb dX7_create_44 (lv_at hl 0 rfl) ?_
      refine lv_aload_n hx hb dX7_create_46 rfl (lv_at hl 1 rfl) ?_
      refine va_get (D := (dC, dI)) (ci := 7) (v := .int 31) (C := RX7) (T := TX7) (N := 18) hx hb hts hi7 hown hK hP 0 rfl rfl 16 (by decide) (hts (.fieldLink RX7 61 "TallyLogsModel" "up" "I") (by decide +kernel)) (fun _ h9 => h9) rfl dX7_create_47 ?_
      refine lv_iand hx hb dX7_create_50 ?_
      refine lv_topi (fun v563 ev563 => ?_)
      refine lv_if_ne (tgt := 57) hx hb dX7_create_51 (by decide) (fun c564 => ?_) (fun c564 => ?_)
      · obtain ⟨jp, hjp, hxp⟩ := vp_in_of hin558 (by decide)
        rcases (show jp = 0 ∨ jp = 1 ∨ jp = 2 ∨ jp = 3 by omega) with rfl | rfl | rfl | rfl
        · obtain rfl : xp = 0 := hxp
          refine lv_aload_n hx hb dX7_create_57 rfl (lv_at hl 1 rfl) ?_
          refine va_get (D := (dC, dI)) (ci := 7) (v := .ref (w 2)) (C := RX7) (T := TX7) (N := 18) hx hb hts hi7 hown hK hP 0 rfl rfl 1 (by decide) (hts (.fieldLink RX7 14 "TallyLogsModel" "there" "[Z") (by decide +kernel)) (fun _ h9 => h9) rfl dX7_create_58 ?_
          refine lv_iload_n hx hb dX7_create_61 rfl (lv_at hl 2 rfl) ?_
          refine lv_iconst (v := 1) hx hb dX7_create_62 (by decide) ?_
          refine va_zast hx hb hK hP hD hS 1 0 rfl rfl (by unfold vp_in; decide) dX7_create_63  (fun H locs hP hD hS => ?_)
          refine lv_aload_n hx hb dX7_create_64 rfl (lv_at hl 1 rfl) ?_
          refine va_get (D := (dC, dI)) (ci := 7) (v := .ref (w 3)) (C := RX7) (T := TX7) (N := 18) hx hb hts hi7 hown hK hP 0 rfl rfl 2 (by decide) (hts (.fieldLink RX7 18 "TallyLogsModel" "replicas" "[I") (by decide +kernel)) (fun _ h9 => h9) rfl dX7_create_65 ?_
          refine lv_iload_n hx hb dX7_create_68 rfl (lv_at hl 2 rfl) ?_
          refine lv_iload hx hb dX7_create_69 (lv_at hl 0 rfl) ?_
          refine va_iast hx hb hK hP hD hS 2 1 rfl rfl (by unfold vp_in; decide) dX7_create_71  (fun H locs hP hD hS => ?_)
          refine lv_aload_n hx hb dX7_create_72 rfl (lv_at hl 1 rfl) ?_
          refine va_get (D := (dC, dI)) (ci := 7) (v := .ref (w 6)) (C := RX7) (T := TX7) (N := 18) hx hb hts hi7 hown hK hP 0 rfl rfl 5 (by decide) (hts (.fieldLink RX7 28 "TallyLogsModel" "min" "[I") (by decide +kernel)) (fun _ h9 => h9) rfl dX7_create_73 ?_
          refine lv_iload_n hx hb dX7_create_76 rfl (lv_at hl 2 rfl) ?_
          refine lv_iload_n hx hb dX7_create_77 rfl (lv_at hl 4 rfl) ?_
          refine va_iast hx hb hK hP hD hS 5 1 rfl rfl (by unfold vp_in; decide) dX7_create_78  (fun H locs hP hD hS => ?_)
          refine lv_aload_n hx hb dX7_create_79 rfl (lv_at hl 1 rfl) ?_
          refine va_get (D := (dC, dI)) (ci := 7) (v := .ref (w 5)) (C := RX7) (T := TX7) (N := 18) hx hb hts hi7 hown hK hP 0 rfl rfl 4 (by decide) (hts (.fieldLink RX7 25 "TallyLogsModel" "epoch" "[I") (by decide +kernel)) (fun _ h9 => h9) rfl dX7_create_80 ?_
          refine lv_iload_n hx hb dX7_create_83 rfl (lv_at hl 2 rfl) ?_
          refine lv_iconst (v := 0) hx hb dX7_create_84 (by decide) ?_
          refine va_iast hx hb hK hP hD hS 4 1 rfl rfl (by unfold vp_in; decide) dX7_create_85  (fun H locs hP hD hS => ?_)
          refine lv_aload_n hx hb dX7_create_86 rfl (lv_at hl 1 rfl) ?_
          refine va_get (D := (dC, dI)) (ci := 7) (v := .ref (w 7)) (C := RX7) (T := TX7) (N := 18) hx hb hts hi7 hown hK hP 0 rfl rfl 6 (by decide) (hts (.fieldLink RX7 31 "TallyLogsModel" "step" "[I") (by decide +kernel)) (fun _ h9 => h9) rfl dX7_create_87 ?_
          refine lv_iload_n hx hb dX7_create_90 rfl (lv_at hl 2 rfl) ?_
          refine lv_iload hx hb dX7_create_91 (lv_at hl 0 rfl) ?_
          refine lv_aload_n hx hb dX7_create_93 rfl (lv_at hl 1 rfl) ?_
          refine va_get (D := (dC, dI)) (ci := 7) (v := .int 31) (C := RX7) (T := TX7) (N := 18) hx hb hts hi7 hown hK hP 0 rfl rfl 16 (by decide) (hts (.fieldLink RX7 61 "TallyLogsModel" "up" "I") (by decide +kernel)) (fun _ h9 => h9) rfl dX7_create_94 ?_
          refine lv_iand hx hb dX7_create_97 ?_
          refine lv_topi (fun v565 ev565 => ?_)
          refine va_iast hx hb hK hP hD hS 6 1 rfl rfl (by unfold vp_in; decide) dX7_create_98  (fun H locs hP hD hS => ?_)
          refine lv_aload_n hx hb dX7_create_99 rfl (lv_at hl 1 rfl) ?_
          refine va_get (D := (dC, dI)) (ci := 7) (v := .ref (w 4)) (C := RX7) (T := TX7) (N := 18) hx hb hts hi7 hown hK hP 0 rfl rfl 3 (by decide) (hts (.fieldLink RX7 22 "TallyLogsModel" "leader" "[I") (by decide +kernel)) (fun _ h9 => h9) rfl dX7_create_100 ?_
          refine lv_iload_n hx hb dX7_create_103 rfl (lv_at hl 2 rfl) ?_
          refine lv_aload_n hx hb dX7_create_104 rfl (lv_at hl 1 rfl) ?_
          refine va_get (D := (dC, dI)) (ci := 7) (v := .ref (w 7)) (C := RX7) (T := TX7) (N := 18) hx hb hts hi7 hown hK hP 0 rfl rfl 6 (by decide) (hts (.fieldLink RX7 31 "TallyLogsModel" "step" "[I") (by decide +kernel)) (fun _ h9 => h9) rfl dX7_create_105 ?_
          refine lv_iload_n hx hb dX7_create_108 rfl (lv_at hl 2 rfl) ?_
          refine va_iald hx hb hK hP 6 1 rfl rfl (by unfold vp_in; decide) dX7_create_109 ?_
          refine W.eq (g2 := F0 m 110 ls [.int v565, .int 0, .ref (w 4)]) (by rw [pk_us]) ?_
          refine vp_callSi (W.runS (As := [.int v565]) (rest := [.int 0, .ref (w 4)]) ⟨hx, hb, hml, hown, hts⟩ (c_J6_numberOfTrailingZeros_0f7a4 l v565) (va_cwS 1 hts gX7_create_J6_numberOfTrailingZeros_0f7a4 rfl rfl rfl (by decide +kernel) ⟨Nat.le_of_ble_eq_true rfl, Nat.le_of_ble_eq_true rfl⟩) preEq rfl rfl hl.1 rfl (lv_room (Nat.le_of_ble_eq_true rfl)) dX7_create_110 ⟨Nat.le_of_ble_eq_true rfl, Nat.le_of_ble_eq_true rfl⟩) (fun r566 hr566 => ?_)
          subst hr566
          refine va_iast hx hb hK hP hD hS 3 1 rfl rfl (by unfold vp_in; decide) dX7_create_113  (fun H locs hP hD hS => ?_)
          refine lv_iconst (v := 0) hx hb dX7_create_114 (by decide) ?_
          refine lv_istore (lv' := [(5, .int 0), (4, .int v555), (0, .ref (w 0)), (1, .int 0), (2, .int xr), (3, .int xm)]) hx hb dX7_create_115 hl (by decide) rfl (fun ls hl => ?_)
          refine lv_iload hx hb dX7_create_117 (lv_at hl 0 rfl) ?_
          refine lv_iconst (v := 5) hx hb dX7_create_119 (by decide) ?_
          refine lv_icmp_ge (tgt := 158) hx hb dX7_create_120 (by decide) (fun c567 => ?_) (fun c567 => ?_)
          · exact absurd c567 (by decide)
          refine lv_aload_n hx hb dX7_create_123 rfl (lv_at hl 2 rfl) ?_
          refine va_get (D := (dC, dI)) (ci := 7) (v := .ref (w 1)) (C := RX7) (T := TX7) (N := 18) hx hb hts hi7 hown hK hP 0 rfl rfl 0 (by decide) (hts (.fieldLink RX7 11 "TallyLogsModel" "log" "[[LTallyLogsModel$Log;") (by decide +kernel)) (fun _ h9 => h9) rfl dX7_create_124 ?_
          refine lv_iload_n hx hb dX7_create_127 rfl (lv_at hl 3 rfl) ?_
          refine xg_aldg hx hb hK hP 16 2 rfl rfl (by unfold vp_in; decide) dX7_create_128 ?_
          refine W.eq (g2 := F0 m 129 ls [.ref (u 0)]) rfl ?_
          refine lv_iload hx hb dX7_create_129 (lv_at hl 0 rfl) ?_
          refine va_aldq hx hb hK hP 17 3 rfl rfl (by unfold vp_in; decide) dX7_create_131 ?_
          refine W.eq (g2 := F0 m 132 ls [.ref (u 4)]) rfl ?_
          refine lv_aload_n hx hb dX7_create_132 rfl (lv_at hl 2 rfl) ?_
          refine va_get (D := (dC, dI)) (ci := 7) (v := .int 0) (C := RX7) (T := TX7) (N := 18) hx hb hts hi7 hown hK hP 0 rfl rfl 17 (by decide) (hts (.fieldLink RX7 119 "TallyLogsModel" "now" "I") (by decide +kernel)) (fun _ h9 => h9) rfl dX7_create_133 ?_
          refine va_put (D := (dC, dI)) (ci := 6) (v := .int 0) (ty := .int) (C := RX6) (T := TX6) (N := 7) hx hb hts hi6 tyX6 tyX6_ok nmX6 hown hK hP hD hS 21 rfl rfl 6 (by decide) (hts (.fieldLink RX7 122 "TallyLogsModel$Log" "caught" "I") (by decide +kernel)) (fun _ h9 => h9) rfl (by decide +kernel) rfl rfl (Nat.le_of_ble_eq_true rfl) dX7_create_136 (fun H locs hP hD hS => ?_)
          refine lv_aload_n hx hb dX7_create_139 rfl (lv_at hl 2 rfl) ?_
          refine va_get (D := (dC, dI)) (ci := 7) (v := .ref (w 1)) (C := RX7) (T := TX7) (N := 18) hx hb hts hi7 hown hK hP 0 rfl rfl 0 (by decide) (hts (.fieldLink RX7 11 "TallyLogsModel" "log" "[[LTallyLogsModel$Log;") (by decide +kernel)) (fun _ h9 => h9) rfl dX7_create_140 ?_
          refine lv_iload_n hx hb dX7_create_143 rfl (lv_at hl 3 rfl) ?_
          refine xg_aldg hx hb hK hP 16 2 rfl rfl (by unfold vp_in; decide) dX7_create_144 ?_
          refine W.eq (g2 := F0 m 145 ls [.ref (u 0)]) rfl ?_
          refine lv_iload hx hb dX7_create_145 (lv_at hl 0 rfl) ?_
          refine va_aldq hx hb hK hP 17 3 rfl rfl (by unfold vp_in; decide) dX7_create_147 ?_
          refine W.eq (g2 := F0 m 148 ls [.ref (u 4)]) rfl ?_
          refine lv_iconst (v := 0) hx hb dX7_create_148 (by decide) ?_
          refine va_put (D := (dC, dI)) (ci := 6) (v := .int 0) (ty := .int) (C := RX6) (T := TX6) (N := 7) hx hb hts hi6 tyX6 tyX6_ok nmX6 hown hK hP hD hS 21 rfl rfl 5 (by decide) (hts (.fieldLink RX7 92 "TallyLogsModel$Log" "known" "I") (by decide +kernel)) (fun _ h9 => h9) rfl (by decide +kernel) rfl rfl (Nat.le_of_ble_eq_true rfl) dX7_create_149 (fun H locs hP hD hS => ?_)
          refine lv_iinc (v := 1) (lv' := [(5, .int 1), (4, .int v555), (0, .ref (w 0)), (1, .int 0), (2, .int xr), (3, .int xm)]) hx hb dX7_create_152 hl (k := 0) rfl (by decide) (by decide) rfl (fun ls hl => ?_)
          refine lv_goto (tgt := 117) hx hb dX7_create_155 (by decide) ?_
          refine lv_iload hx hb dX7_create_117 (lv_at hl 0 rfl) ?_
          refine lv_iconst (v := 5) hx hb dX7_create_119 (by decide) ?_
          refine lv_icmp_ge (tgt := 158) hx hb dX7_create_120 (by decide) (fun c568 => ?_) (fun c568 => ?_)
          · exact absurd c568 (by decide)
          refine lv_aload_n hx hb dX7_create_123 rfl (lv_at hl 2 rfl) ?_
          refine va_get (D := (dC, dI)) (ci := 7) (v := .ref (w 1)) (C := RX7) (T := TX7) (N := 18) hx hb hts hi7 hown hK hP 0 rfl rfl 0 (by decide) (hts (.fieldLink RX7 11 "TallyLogsModel" "log" "[[LTallyLogsModel$Log;") (by decide +kernel)) (fun _ h9 => h9) rfl dX7_create_124 ?_
          refine lv_iload_n hx hb dX7_create_127 rfl (lv_at hl 3 rfl) ?_
          refine xg_aldg hx hb hK hP 16 2 rfl rfl (by unfold vp_in; decide) dX7_create_128 ?_
          refine W.eq (g2 := F0 m 129 ls [.ref (u 0)]) rfl ?_
          refine lv_iload hx hb dX7_create_129 (lv_at hl 0 rfl) ?_
          refine va_aldq hx hb hK hP 17 3 rfl rfl (by unfold vp_in; decide) dX7_create_131 ?_
          refine W.eq (g2 := F0 m 132 ls [.ref (u 5)]) rfl ?_
          refine lv_aload_n hx hb dX7_create_132 rfl (lv_at hl 2 rfl) ?_
          refine va_get (D := (dC, dI)) (ci := 7) (v := .int 0) (C := RX7) (T := TX7) (N := 18) hx hb hts hi7 hown hK hP 0 rfl rfl 17 (by decide) (hts (.fieldLink RX7 119 "TallyLogsModel" "now" "I") (by decide +kernel)) (fun _ h9 => h9) rfl dX7_create_133 ?_
          refine va_put (D := (dC, dI)) (ci := 6) (v := .int 0) (ty := .int) (C := RX6) (T := TX6) (N := 7) hx hb hts hi6 tyX6 tyX6_ok nmX6 hown hK hP hD hS 22 rfl rfl 6 (by decide) (hts (.fieldLink RX7 122 "TallyLogsModel$Log" "caught" "I") (by decide +kernel)) (fun _ h9 => h9) rfl (by decide +kernel) rfl rfl (Nat.le_of_ble_eq_true rfl) dX7_create_136 (fun H locs hP hD hS => ?_)
          refine lv_aload_n hx hb dX7_create_139 rfl (lv_at hl 2 rfl) ?_
          refine va_get (D := (dC, dI)) (ci := 7) (v := .ref (w 1)) (C := RX7) (T := TX7) (N := 18) hx hb hts hi7 hown hK hP 0 rfl rfl 0 (by decide) (hts (.fieldLink RX7 11 "TallyLogsModel" "log" "[[LTallyLogsModel$Log;") (by decide +kernel)) (fun _ h9 => h9) rfl dX7_create_140 ?_
          refine lv_iload_n hx hb dX7_create_143 rfl (lv_at hl 3 rfl) ?_
          refine xg_aldg hx hb hK hP 16 2 rfl rfl (by unfold vp_in; decide) dX7_create_144 ?_
          refine W.eq (g2 := F0 m 145 ls [.ref (u 0)]) rfl ?_
          refine lv_iload hx hb dX7_create_145 (lv_at hl 0 rfl) ?_
          refine va_aldq hx hb hK hP 17 3 rfl rfl (by unfold vp_in; decide) dX7_create_147 ?_
          refine W.eq (g2 := F0 m 148 ls [.ref (u 5)]) rfl ?_
          refine lv_iconst (v := 0) hx hb dX7_create_148 (by decide) ?_
          refine va_put (D := (dC, dI)) (ci := 6) (v := .int 0) (ty := .int) (C := RX6) (T := TX6) (N := 7) hx hb hts hi6 tyX6 tyX6_ok nmX6 hown hK hP hD hS 22 rfl rfl 5 (by decide) (hts (.fieldLink RX7 92 "TallyLogsModel$Log" "known" "I") (by decide +kernel)) (fun _ h9 => h9) rfl (by decide +kernel) rfl rfl (Nat.le_of_ble_eq_true rfl) dX7_create_149 (fun H locs hP hD hS => ?_)
          refine lv_iinc (v := 2) (lv' := [(5, .int 2), (4, .int v555), (0, .ref (w 0)), (1, .int 0), (2, .int xr), (3, .int xm)]) hx hb dX7_create_152 hl (k := 0) rfl (by decide) (by decide) rfl (fun ls hl => ?_)
          refine lv_goto (tgt := 117) hx hb dX7_create_155 (by decide) ?_
          refine lv_iload hx hb dX7_create_117 (lv_at hl 0 rfl) ?_
          refine lv_iconst (v := 5) hx hb dX7_create_119 (by decide) ?_
          refine lv_icmp_ge (tgt := 158) hx hb dX7_create_120 (by decide) (fun c569 => ?_) (fun c569 => ?_)
          · exact absurd c569 (by decide)
          refine lv_aload_n hx hb dX7_create_123 rfl (lv_at hl 2 rfl) ?_
          refine va_get (D := (dC, dI)) (ci := 7) (v := .ref (w 1)) (C := RX7) (T := TX7) (N := 18) hx hb hts hi7 hown hK hP 0 rfl rfl 0 (by decide) (hts (.fieldLink RX7 11 "TallyLogsModel" "log" "[[LTallyLogsModel$Log;") (by decide +kernel)) (fun _ h9 => h9) rfl dX7_create_124 ?_
          refine lv_iload_n hx hb dX7_create_127 rfl (lv_at hl 3 rfl) ?_
          refine xg_aldg hx hb hK hP 16 2 rfl rfl (by unfold vp_in; decide) dX7_create_128 ?_
          refine W.eq (g2 := F0 m 129 ls [.ref (u 0)]) rfl ?_
          refine lv_iload hx hb dX7_create_129 (lv_at hl 0 rfl) ?_
          refine va_aldq hx hb hK hP 17 3 rfl rfl (by unfold vp_in; decide) dX7_create_131 ?_
          refine W.eq (g2 := F0 m 132 ls [.ref (u 6)]) rfl ?_
          refine lv_aload_n hx hb dX7_create_132 rfl (lv_at hl 2 rfl) ?_
          refine va_get (D := (dC, dI)) (ci := 7) (v := .int 0) (C := RX7) (T := TX7) (N := 18) hx hb hts hi7 hown hK hP 0 rfl rfl 17 (by decide) (hts (.fieldLink RX7 119 "TallyLogsModel" "now" "I") (by decide +kernel)) (fun _ h9 => h9) rfl dX7_create_133 ?_
          refine va_put (D := (dC, dI)) (ci := 6) (v := .int 0) (ty := .int) (C := RX6) (T := TX6) (N := 7) hx hb hts hi6 tyX6 tyX6_ok nmX6 hown hK hP hD hS 23 rfl rfl 6 (by decide) (hts (.fieldLink RX7 122 "TallyLogsModel$Log" "caught" "I") (by decide +kernel)) (fun _ h9 => h9) rfl (by decide +kernel) rfl rfl (Nat.le_of_ble_eq_true rfl) dX7_create_136 (fun H locs hP hD hS => ?_)
          refine lv_aload_n hx hb dX7_create_139 rfl (lv_at hl 2 rfl) ?_
          refine va_get (D := (dC, dI)) (ci := 7) (v := .ref (w 1)) (C := RX7) (T := TX7) (N := 18) hx hb hts hi7 hown hK hP 0 rfl rfl 0 (by decide) (hts (.fieldLink RX7 11 "TallyLogsModel" "log" "[[LTallyLogsModel$Log;") (by decide +kernel)) (fun _ h9 => h9) rfl dX7_create_140 ?_
          refine lv_iload_n hx hb dX7_create_143 rfl (lv_at hl 3 rfl) ?_
          refine xg_aldg hx hb hK hP 16 2 rfl rfl (by unfold vp_in; decide) dX7_create_144 ?_
          refine W.eq (g2 := F0 m 145 ls [.ref (u 0)]) rfl ?_
          refine lv_iload hx hb dX7_create_145 (lv_at hl 0 rfl) ?_
          refine va_aldq hx hb hK hP 17 3 rfl rfl (by unfold vp_in; decide) dX7_create_147 ?_
          refine W.eq (g2 := F0 m 148 ls [.ref (u 6)]) rfl ?_
          refine lv_iconst (v := 0) hx hb dX7_create_148 (by decide) ?_
          refine va_put (D := (dC, dI)) (ci := 6) (v := .int 0) (ty := .int) (C := RX6) (T := TX6) (N := 7) hx hb hts hi6 tyX6 tyX6_ok nmX6 hown hK hP hD hS 23 rfl rfl 5 (by decide) (hts (.fieldLink RX7 92 "TallyLogsModel$Log" "known" "I") (by decide +kernel)) (fun _ h9 => h9) rfl (by decide +kernel) rfl rfl (Nat.le_of_ble_eq_true rfl) dX7_create_149 (fun H locs hP hD hS => ?_)
          refine lv_iinc (v := 3) (lv' := [(5, .int 3), (4, .int v555), (0, .ref (w 0)), (1, .int 0), (2, .int xr), (3, .int xm)]) hx hb dX7_create_152 hl (k := 0) rfl (by decide) (by decide) rfl (fun ls hl => ?_)
          refine lv_goto (tgt := 117) hx hb dX7_create_155 (by decide) ?_
          refine lv_iload hx hb dX7_create_117 (lv_at hl 0 rfl) ?_
          refine lv_iconst (v := 5) hx hb dX7_create_119 (by decide) ?_
          refine lv_icmp_ge (tgt := 158) hx hb dX7_create_120 (by decide) (fun c570 => ?_) (fun c570 => ?_)
          · exact absurd c570 (by decide)
          refine lv_aload_n hx hb dX7_create_123 rfl (lv_at hl 2 rfl) ?_
          refine va_get (D := (dC, dI)) (ci := 7) (v := .ref (w 1)) (C := RX7) (T := TX7) (N := 18) hx hb hts hi7 hown hK hP 0 rfl rfl 0 (by decide) (hts (.fieldLink RX7 11 "TallyLogsModel" "log" "[[LTallyLogsModel$Log;") (by decide +kernel)) (fun _ h9 => h9) rfl dX7_create_124 ?_
          refine lv_iload_n hx hb dX7_create_127 rfl (lv_at hl 3 rfl) ?_
          refine xg_aldg hx hb hK hP 16 2 rfl rfl (by unfold vp_in; decide) dX7_create_128 ?_
          refine W.eq (g2 := F0 m 129 ls [.ref (u 0)]) rfl ?_
          refine lv_iload hx hb dX7_create_129 (lv_at hl 0 rfl) ?_
          refine va_aldq hx hb hK hP 17 3 rfl rfl (by unfold vp_in; decide) dX7_create_131 ?_
          refine W.eq (g2 := F0 m 132 ls [.ref (u 7)]) rfl ?_
          refine lv_aload_n hx hb dX7_create_132 rfl (lv_at hl 2 rfl) ?_
          refine va_get (D := (dC, dI)) (ci := 7) (v := .int 0) (C := RX7) (T := TX7) (N := 18) hx hb hts hi7 hown hK hP 0 rfl rfl 17 (by decide) (hts (.fieldLink RX7 119 "TallyLogsModel" "now" "I") (by decide +kernel)) (fun _ h9 => h9) rfl dX7_create_133 ?_
          refine va_put (D := (dC, dI)) (ci := 6) (v := .int 0) (ty := .int) (C := RX6) (T := TX6) (N := 7) hx hb hts hi6 tyX6 tyX6_ok nmX6 hown hK hP hD hS 24 rfl rfl 6 (by decide) (hts (.fieldLink RX7 122 "TallyLogsModel$Log" "caught" "I") (by decide +kernel)) (fun _ h9 => h9) rfl (by decide +kernel) rfl rfl (Nat.le_of_ble_eq_true rfl) dX7_create_136 (fun H locs hP hD hS => ?_)
          refine lv_aload_n hx hb dX7_create_139 rfl (lv_at hl 2 rfl) ?_
          refine va_get (D := (dC, dI)) (ci := 7) (v := .ref (w 1)) (C := RX7) (T := TX7) (N := 18) hx hb hts hi7 hown hK hP 0 rfl rfl 0 (by decide) (hts (.fieldLink RX7 11 "TallyLogsModel" "log" "[[LTallyLogsModel$Log;") (by decide +kernel)) (fun _ h9 => h9) rfl dX7_create_140 ?_
          refine lv_iload_n hx hb dX7_create_143 rfl (lv_at hl 3 rfl) ?_
          refine xg_aldg hx hb hK hP 16 2 rfl rfl (by unfold vp_in; decide) dX7_create_144 ?_
          refine W.eq (g2 := F0 m 145 ls [.ref (u 0)]) rfl ?_
          refine lv_iload hx hb dX7_create_145 (lv_at hl 0 rfl) ?_
          refine va_aldq hx hb hK hP 17 3 rfl rfl (by unfold vp_in; decide) dX7_create_147 ?_
          refine W.eq (g2 := F0 m 148 ls [.ref (u 7)]) rfl ?_
          refine lv_iconst (v := 0) hx hb dX7_create_148 (by decide) ?_
          refine va_put (D := (dC, dI)) (ci := 6) (v := .int 0) (ty := .int) (C := RX6) (T := TX6) (N := 7) hx hb hts hi6 tyX6 tyX6_ok nmX6 hown hK hP hD hS 24 rfl rfl 5 (by decide) (hts (.fieldLink RX7 92 "TallyLogsModel$Log" "known" "I") (by decide +kernel)) (fun _ h9 => h9) rfl (by decide +kernel) rfl rfl (Nat.le_of_ble_eq_true rfl) dX7_create_149 (fun H locs hP hD hS => ?_)
          refine lv_iinc (v := 4) (lv' := [(5, .int 4), (4, .int v555), (0, .ref (w 0)), (1, .int 0), (2, .int xr), (3, .int xm)]) hx hb dX7_create_152 hl (k := 0) rfl (by decide) (by decide) rfl (fun ls hl => ?_)
          refine lv_goto (tgt := 117) hx hb dX7_create_155 (by decide) ?_
          refine lv_iload hx hb dX7_create_117 (lv_at hl 0 rfl) ?_
          refine lv_iconst (v := 5) hx hb dX7_create_119 (by decide) ?_
          refine lv_icmp_ge (tgt := 158) hx hb dX7_create_120 (by decide) (fun c571 => ?_) (fun c571 => ?_)
          · exact absurd c571 (by decide)
          refine lv_aload_n hx hb dX7_create_123 rfl (lv_at hl 2 rfl) ?_
          refine va_get (D := (dC, dI)) (ci := 7) (v := .ref (w 1)) (C := RX7) (T := TX7) (N := 18) hx hb hts hi7 hown hK hP 0 rfl rfl 0 (by decide) (hts (.fieldLink RX7 11 "TallyLogsModel" "log" "[[LTallyLogsModel$Log;") (by decide +kernel)) (fun _ h9 => h9) rfl dX7_create_124 ?_
          refine lv_iload_n hx hb dX7_create_127 rfl (lv_at hl 3 rfl) ?_
          refine xg_aldg hx hb hK hP 16 2 rfl rfl (by unfold vp_in; decide) dX7_create_128 ?_
          refine W.eq (g2 := F0 m 129 ls [.ref (u 0)]) rfl ?_
          refine lv_iload hx hb dX7_create_129 (lv_at hl 0 rfl) ?_
          refine va_aldq hx hb hK hP 17 3 rfl rfl (by unfold vp_in; decide) dX7_create_131 ?_
          refine W.eq (g2 := F0 m 132 ls [.ref (u 8)]) rfl ?_
          refine lv_aload_n hx hb dX7_create_132 rfl (lv_at hl 2 rfl) ?_
          refine va_get (D := (dC, dI)) (ci := 7) (v := .int 0) (C := RX7) (T := TX7) (N := 18) hx hb hts hi7 hown hK hP 0 rfl rfl 17 (by decide) (hts (.fieldLink RX7 119 "TallyLogsModel" "now" "I") (by decide +kernel)) (fun _ h9 => h9) rfl dX7_create_133 ?_
          refine va_put (D := (dC, dI)) (ci := 6) (v := .int 0) (ty := .int) (C := RX6) (T := TX6) (N := 7) hx hb hts hi6 tyX6 tyX6_ok nmX6 hown hK hP hD hS 25 rfl rfl 6 (by decide) (hts (.fieldLink RX7 122 "TallyLogsModel$Log" "caught" "I") (by decide +kernel)) (fun _ h9 => h9) rfl (by decide +kernel) rfl rfl (Nat.le_of_ble_eq_true rfl) dX7_create_136 (fun H locs hP hD hS => ?_)
          refine lv_aload_n hx hb dX7_create_139 rfl (lv_at hl 2 rfl) ?_
          refine va_get (D := (dC, dI)) (ci := 7) (v := .ref (w 1)) (C := RX7) (T := TX7) (N := 18) hx hb hts hi7 hown hK hP 0 rfl rfl 0 (by decide) (hts (.fieldLink RX7 11 "TallyLogsModel" "log" "[[LTallyLogsModel$Log;") (by decide +kernel)) (fun _ h9 => h9) rfl dX7_create_140 ?_
          refine lv_iload_n hx hb dX7_create_143 rfl (lv_at hl 3 rfl) ?_
          refine xg_aldg hx hb hK hP 16 2 rfl rfl (by unfold vp_in; decide) dX7_create_144 ?_
          refine W.eq (g2 := F0 m 145 ls [.ref (u 0)]) rfl ?_
          refine lv_iload hx hb dX7_create_145 (lv_at hl 0 rfl) ?_
          refine va_aldq hx hb hK hP 17 3 rfl rfl (by unfold vp_in; decide) dX7_create_147 ?_
          refine W.eq (g2 := F0 m 148 ls [.ref (u 8)]) rfl ?_
          refine lv_iconst (v := 0) hx hb dX7_create_148 (by decide) ?_
          refine va_put (D := (dC, dI)) (ci := 6) (v := .int 0) (ty := .int) (C := RX6) (T := TX6) (N := 7) hx hb hts hi6 tyX6 tyX6_ok nmX6 hown hK hP hD hS 25 rfl rfl 5 (by decide) (hts (.fieldLink RX7 92 "TallyLogsModel$Log" "known" "I") (by decide +kernel)) (fun _ h9 => h9) rfl (by decide +kernel) rfl rfl (Nat.le_of_ble_eq_true rfl) dX7_create_149 (fun H locs hP hD hS => ?_)
          refine lv_iinc (v := 5) (lv' := [(5, .int 5), (4, .int v555), (0, .ref (w 0)), (1, .int 0), (2, .int xr), (3, .int xm)]) hx hb dX7_create_152 hl (k := 0) rfl (by decide) (by decide) rfl (fun ls hl => ?_)
          refine lv_goto (tgt := 117) hx hb dX7_create_155 (by decide) ?_
          refine lv_iload hx hb dX7_create_117 (lv_at hl 0 rfl) ?_
          refine lv_iconst (v := 5) hx hb dX7_create_119 (by decide) ?_
          refine lv_icmp_ge (tgt := 158) hx hb dX7_create_120 (by decide) (fun c572 => ?_) (fun c572 => ?_)
          rotate_left
          · exact absurd c572 (by decide)
          refine lv_aload_n hx hb dX7_create_158 rfl (lv_at hl 2 rfl) ?_
          refine va_get (D := (dC, dI)) (ci := 7) (v := .ref (w 4)) (C := RX7) (T := TX7) (N := 18) hx hb hts hi7 hown hK hP 0 rfl rfl 3 (by decide) (hts (.fieldLink RX7 22 "TallyLogsModel" "leader" "[I") (by decide +kernel)) (fun _ h9 => h9) rfl dX7_create_159 ?_
          refine lv_iload_n hx hb dX7_create_162 rfl (lv_at hl 3 rfl) ?_
          refine va_iald hx hb hK hP 3 1 rfl rfl (by unfold vp_in; decide) dX7_create_163 ?_
          refine W.eq (g2 := F0 m 164 ls [.int (sp_nz v565)]) (by rw [pk_us]) ?_
          exact W.iret (v := (sp_nz v565)) hx hb hr (fun t ht hW => ⟨⟨(sp_nz v565), (), rfl, by show _ = _; subst ev555; subst ev563; subst ev565; have kc557 := (not_congr (sp_in_0 (0 : Int32) 0 3)).mp c557; have kc562 := (not_congr (sp_in_0 xm 1 ((sp_bc v555).toInt64))).mp c562; simp only [xk_eq, Int32.toInt_toInt64, xk_lt, xk_le, xk_0, xk_1, xk_2, xk_3, xk_4, xk_5, xk_6, xk_7, xk_8, xk_50, xl_0, xl_1, xl_3, xl_4, xl_5, xl_6, xl_7, xl_50] at kc557 kc562; unfold sp_ce; rw [if_neg (by first | decide | (simp only [xk_0, xk_1, xk_2, xk_3]; omega)), if_neg (by omega), if_neg c564]; exact sp_lz _ c564, trivial⟩, hS.F ht⟩) hS.2.2 dX7_create_164
        · obtain rfl : xp = 1 := hxp
          refine lv_aload_n hx hb dX7_create_57 rfl (lv_at hl 1 rfl) ?_
          refine va_get (D := (dC, dI)) (ci := 7) (v := .ref (w 2)) (C := RX7) (T := TX7) (N := 18) hx hb hts hi7 hown hK hP 0 rfl rfl 1 (by decide) (hts (.fieldLink RX7 14 "TallyLogsModel" "there" "[Z") (by decide +kernel)) (fun _ h9 => h9) rfl dX7_create_58 ?_
          refine lv_iload_n hx hb dX7_create_61 rfl (lv_at hl 2 rfl) ?_
          refine lv_iconst (v := 1) hx hb dX7_create_62 (by decide) ?_
          refine va_zast hx hb hK hP hD hS 1 0 rfl rfl (by unfold vp_in; decide) dX7_create_63  (fun H locs hP hD hS => ?_)
          refine lv_aload_n hx hb dX7_create_64 rfl (lv_at hl 1 rfl) ?_
          refine va_get (D := (dC, dI)) (ci := 7) (v := .ref (w 3)) (C := RX7) (T := TX7) (N := 18) hx hb hts hi7 hown hK hP 0 rfl rfl 2 (by decide) (hts (.fieldLink RX7 18 "TallyLogsModel" "replicas" "[I") (by decide +kernel)) (fun _ h9 => h9) rfl dX7_create_65 ?_
          refine lv_iload_n hx hb dX7_create_68 rfl (lv_at hl 2 rfl) ?_
          refine lv_iload hx hb dX7_create_69 (lv_at hl 0 rfl) ?_
          refine va_iast hx hb hK hP hD hS 2 1 rfl rfl (by unfold vp_in; decide) dX7_create_71  (fun H locs hP hD hS => ?_)
          refine lv_aload_n hx hb dX7_create_72 rfl (lv_at hl 1 rfl) ?_
          refine va_get (D := (dC, dI)) (ci := 7) (v := .ref (w 6)) (C := RX7) (T := TX7) (N := 18) hx hb hts hi7 hown hK hP 0 rfl rfl 5 (by decide) (hts (.fieldLink RX7 28 "TallyLogsModel" "min" "[I") (by decide +kernel)) (fun _ h9 => h9) rfl dX7_create_73 ?_
          refine lv_iload_n hx hb dX7_create_76 rfl (lv_at hl 2 rfl) ?_
          refine lv_iload_n hx hb dX7_create_77 rfl (lv_at hl 4 rfl) ?_
          refine va_iast hx hb hK hP hD hS 5 1 rfl rfl (by unfold vp_in; decide) dX7_create_78  (fun H locs hP hD hS => ?_)
          refine lv_aload_n hx hb dX7_create_79 rfl (lv_at hl 1 rfl) ?_
          refine va_get (D := (dC, dI)) (ci := 7) (v := .ref (w 5)) (C := RX7) (T := TX7) (N := 18) hx hb hts hi7 hown hK hP 0 rfl rfl 4 (by decide) (hts (.fieldLink RX7 25 "TallyLogsModel" "epoch" "[I") (by decide +kernel)) (fun _ h9 => h9) rfl dX7_create_80 ?_
          refine lv_iload_n hx hb dX7_create_83 rfl (lv_at hl 2 rfl) ?_
          refine lv_iconst (v := 0) hx hb dX7_create_84 (by decide) ?_
          refine va_iast hx hb hK hP hD hS 4 1 rfl rfl (by unfold vp_in; decide) dX7_create_85  (fun H locs hP hD hS => ?_)
          refine lv_aload_n hx hb dX7_create_86 rfl (lv_at hl 1 rfl) ?_
          refine va_get (D := (dC, dI)) (ci := 7) (v := .ref (w 7)) (C := RX7) (T := TX7) (N := 18) hx hb hts hi7 hown hK hP 0 rfl rfl 6 (by decide) (hts (.fieldLink RX7 31 "TallyLogsModel" "step" "[I") (by decide +kernel)) (fun _ h9 => h9) rfl dX7_create_87 ?_
          refine lv_iload_n hx hb dX7_create_90 rfl (lv_at hl 2 rfl) ?_
          refine lv_iload hx hb dX7_create_91 (lv_at hl 0 rfl) ?_
          refine lv_aload_n hx hb dX7_create_93 rfl (lv_at hl 1 rfl) ?_
          refine va_get (D := (dC, dI)) (ci := 7) (v := .int 31) (C := RX7) (T := TX7) (N := 18) hx hb hts hi7 hown hK hP 0 rfl rfl 16 (by decide) (hts (.fieldLink RX7 61 "TallyLogsModel" "up" "I") (by decide +kernel)) (fun _ h9 => h9) rfl dX7_create_94 ?_
          refine lv_iand hx hb dX7_create_97 ?_
          refine lv_topi (fun v573 ev573 => ?_)
          refine va_iast hx hb hK hP hD hS 6 1 rfl rfl (by unfold vp_in; decide) dX7_create_98  (fun H locs hP hD hS => ?_)
          refine lv_aload_n hx hb dX7_create_99 rfl (lv_at hl 1 rfl) ?_
          refine va_get (D := (dC, dI)) (ci := 7) (v := .ref (w 4)) (C := RX7) (T := TX7) (N := 18) hx hb hts hi7 hown hK hP 0 rfl rfl 3 (by decide) (hts (.fieldLink RX7 22 "TallyLogsModel" "leader" "[I") (by decide +kernel)) (fun _ h9 => h9) rfl dX7_create_100 ?_
          refine lv_iload_n hx hb dX7_create_103 rfl (lv_at hl 2 rfl) ?_
          refine lv_aload_n hx hb dX7_create_104 rfl (lv_at hl 1 rfl) ?_
          refine va_get (D := (dC, dI)) (ci := 7) (v := .ref (w 7)) (C := RX7) (T := TX7) (N := 18) hx hb hts hi7 hown hK hP 0 rfl rfl 6 (by decide) (hts (.fieldLink RX7 31 "TallyLogsModel" "step" "[I") (by decide +kernel)) (fun _ h9 => h9) rfl dX7_create_105 ?_
          refine lv_iload_n hx hb dX7_create_108 rfl (lv_at hl 2 rfl) ?_
          refine va_iald hx hb hK hP 6 1 rfl rfl (by unfold vp_in; decide) dX7_create_109 ?_
          refine W.eq (g2 := F0 m 110 ls [.int v573, .int 1, .ref (w 4)]) (by rw [pk_us]) ?_
          refine vp_callSi (W.runS (As := [.int v573]) (rest := [.int 1, .ref (w 4)]) ⟨hx, hb, hml, hown, hts⟩ (c_J6_numberOfTrailingZeros_0f7a4 l v573) (va_cwS 1 hts gX7_create_J6_numberOfTrailingZeros_0f7a4 rfl rfl rfl (by decide +kernel) ⟨Nat.le_of_ble_eq_true rfl, Nat.le_of_ble_eq_true rfl⟩) preEq rfl rfl hl.1 rfl (lv_room (Nat.le_of_ble_eq_true rfl)) dX7_create_110 ⟨Nat.le_of_ble_eq_true rfl, Nat.le_of_ble_eq_true rfl⟩) (fun r574 hr574 => ?_)
          subst hr574
          refine va_iast hx hb hK hP hD hS 3 1 rfl rfl (by unfold vp_in; decide) dX7_create_113  (fun H locs hP hD hS => ?_)
          refine lv_iconst (v := 0) hx hb dX7_create_114 (by decide) ?_
          refine lv_istore (lv' := [(5, .int 0), (4, .int v555), (0, .ref (w 0)), (1, .int 1), (2, .int xr), (3, .int xm)]) hx hb dX7_create_115 hl (by decide) rfl (fun ls hl => ?_)
          refine lv_iload hx hb dX7_create_117 (lv_at hl 0 rfl) ?_
          refine lv_iconst (v := 5) hx hb dX7_create_119 (by decide) ?_
          refine lv_icmp_ge (tgt := 158) hx hb dX7_create_120 (by decide) (fun c575 => ?_) (fun c575 => ?_)
          · exact absurd c575 (by decide)
          refine lv_aload_n hx hb dX7_create_123 rfl (lv_at hl 2 rfl) ?_
          refine va_get (D := (dC, dI)) (ci := 7) (v := .ref (w 1)) (C := RX7) (T := TX7) (N := 18) hx hb hts hi7 hown hK hP 0 rfl rfl 0 (by decide) (hts (.fieldLink RX7 11 "TallyLogsModel" "log" "[[LTallyLogsModel$Log;") (by decide +kernel)) (fun _ h9 => h9) rfl dX7_create_124 ?_
          refine lv_iload_n hx hb dX7_create_127 rfl (lv_at hl 3 rfl) ?_
          refine xg_aldg hx hb hK hP 16 2 rfl rfl (by unfold vp_in; decide) dX7_create_128 ?_
          refine W.eq (g2 := F0 m 129 ls [.ref (u 1)]) rfl ?_
          refine lv_iload hx hb dX7_create_129 (lv_at hl 0 rfl) ?_
          refine va_aldq hx hb hK hP 18 3 rfl rfl (by unfold vp_in; decide) dX7_create_131 ?_
          refine W.eq (g2 := F0 m 132 ls [.ref (u 9)]) rfl ?_
          refine lv_aload_n hx hb dX7_create_132 rfl (lv_at hl 2 rfl) ?_
          refine va_get (D := (dC, dI)) (ci := 7) (v := .int 0) (C := RX7) (T := TX7) (N := 18) hx hb hts hi7 hown hK hP 0 rfl rfl 17 (by decide) (hts (.fieldLink RX7 119 "TallyLogsModel" "now" "I") (by decide +kernel)) (fun _ h9 => h9) rfl dX7_create_133 ?_
          refine va_put (D := (dC, dI)) (ci := 6) (v := .int 0) (ty := .int) (C := RX6) (T := TX6) (N := 7) hx hb hts hi6 tyX6 tyX6_ok nmX6 hown hK hP hD hS 26 rfl rfl 6 (by decide) (hts (.fieldLink RX7 122 "TallyLogsModel$Log" "caught" "I") (by decide +kernel)) (fun _ h9 => h9) rfl (by decide +kernel) rfl rfl (Nat.le_of_ble_eq_true rfl) dX7_create_136 (fun H locs hP hD hS => ?_)
          refine lv_aload_n hx hb dX7_create_139 rfl (lv_at hl 2 rfl) ?_
          refine va_get (D := (dC, dI)) (ci := 7) (v := .ref (w 1)) (C := RX7) (T := TX7) (N := 18) hx hb hts hi7 hown hK hP 0 rfl rfl 0 (by decide) (hts (.fieldLink RX7 11 "TallyLogsModel" "log" "[[LTallyLogsModel$Log;") (by decide +kernel)) (fun _ h9 => h9) rfl dX7_create_140 ?_
          refine lv_iload_n hx hb dX7_create_143 rfl (lv_at hl 3 rfl) ?_
          refine xg_aldg hx hb hK hP 16 2 rfl rfl (by unfold vp_in; decide) dX7_create_144 ?_
          refine W.eq (g2 := F0 m 145 ls [.ref (u 1)]) rfl ?_
          refine lv_iload hx hb dX7_create_145 (lv_at hl 0 rfl) ?_
          refine va_aldq hx hb hK hP 18 3 rfl rfl (by unfold vp_in; decide) dX7_create_147 ?_
          refine W.eq (g2 := F0 m 148 ls [.ref (u 9)]) rfl ?_
          refine lv_iconst (v := 0) hx hb dX7_create_148 (by decide) ?_
          refine va_put (D := (dC, dI)) (ci := 6) (v := .int 0) (ty := .int) (C := RX6) (T := TX6) (N := 7) hx hb hts hi6 tyX6 tyX6_ok nmX6 hown hK hP hD hS 26 rfl rfl 5 (by decide) (hts (.fieldLink RX7 92 "TallyLogsModel$Log" "known" "I") (by decide +kernel)) (fun _ h9 => h9) rfl (by decide +kernel) rfl rfl (Nat.le_of_ble_eq_true rfl) dX7_create_149 (fun H locs hP hD hS => ?_)
          refine lv_iinc (v := 1) (lv' := [(5, .int 1), (4, .int v555), (0, .ref (w 0)), (1, .int 1), (2, .int xr), (3, .int xm)]) hx hb dX7_create_152 hl (k := 0) rfl (by decide) (by decide) rfl (fun ls hl => ?_)
          refine lv_goto (tgt := 117) hx hb dX7_create_155 (by decide) ?_
          refine lv_iload hx hb dX7_create_117 (lv_at hl 0 rfl) ?_
          refine lv_iconst (v := 5) hx hb dX7_create_119 (by decide) ?_
          refine lv_icmp_ge (tgt := 158) hx hb dX7_create_120 (by decide) (fun c576 => ?_) (fun c576 => ?_)
          · exact absurd c576 (by decide)
          refine lv_aload_n hx hb dX7_create_123 rfl (lv_at hl 2 rfl) ?_
          refine va_get (D := (dC, dI)) (ci := 7) (v := .ref (w 1)) (C := RX7) (T := TX7) (N := 18) hx hb hts hi7 hown hK hP 0 rfl rfl 0 (by decide) (hts (.fieldLink RX7 11 "TallyLogsModel" "log" "[[LTallyLogsModel$Log;") (by decide +kernel)) (fun _ h9 => h9) rfl dX7_create_124 ?_
          refine lv_iload_n hx hb dX7_create_127 rfl (lv_at hl 3 rfl) ?_
          refine xg_aldg hx hb hK hP 16 2 rfl rfl (by unfold vp_in; decide) dX7_create_128 ?_
          refine W.eq (g2 := F0 m 129 ls [.ref (u 1)]) rfl ?_
          refine lv_iload hx hb dX7_create_129 (lv_at hl 0 rfl) ?_
          refine va_aldq hx hb hK hP 18 3 rfl rfl (by unfold vp_in; decide) dX7_create_131 ?_
          refine W.eq (g2 := F0 m 132 ls [.ref (u 10)]) rfl ?_
          refine lv_aload_n hx hb dX7_create_132 rfl (lv_at hl 2 rfl) ?_
          refine va_get (D := (dC, dI)) (ci := 7) (v := .int 0) (C := RX7) (T := TX7) (N := 18) hx hb hts hi7 hown hK hP 0 rfl rfl 17 (by decide) (hts (.fieldLink RX7 119 "TallyLogsModel" "now" "I") (by decide +kernel)) (fun _ h9 => h9) rfl dX7_create_133 ?_
          refine va_put (D := (dC, dI)) (ci := 6) (v := .int 0) (ty := .int) (C := RX6) (T := TX6) (N := 7) hx hb hts hi6 tyX6 tyX6_ok nmX6 hown hK hP hD hS 27 rfl rfl 6 (by decide) (hts (.fieldLink RX7 122 "TallyLogsModel$Log" "caught" "I") (by decide +kernel)) (fun _ h9 => h9) rfl (by decide +kernel) rfl rfl (Nat.le_of_ble_eq_true rfl) dX7_create_136 (fun H locs hP hD hS => ?_)
          refine lv_aload_n hx hb dX7_create_139 rfl (lv_at hl 2 rfl) ?_
          refine va_get (D := (dC, dI)) (ci := 7) (v := .ref (w 1)) (C := RX7) (T := TX7) (N := 18) hx hb hts hi7 hown hK hP 0 rfl rfl 0 (by decide) (hts (.fieldLink RX7 11 "TallyLogsModel" "log" "[[LTallyLogsModel$Log;") (by decide +kernel)) (fun _ h9 => h9) rfl dX7_create_140 ?_
          refine lv_iload_n hx hb dX7_create_143 rfl (lv_at hl 3 rfl) ?_
          refine xg_aldg hx hb hK hP 16 2 rfl rfl (by unfold vp_in; decide) dX7_create_144 ?_
          refine W.eq (g2 := F0 m 145 ls [.ref (u 1)]) rfl ?_
          refine lv_iload hx hb dX7_create_145 (lv_at hl 0 rfl) ?_
          refine va_aldq hx hb hK hP 18 3 rfl rfl (by unfold vp_in; decide) dX7_create_147 ?_
          refine W.eq (g2 := F0 m 148 ls [.ref (u 10)]) rfl ?_
          refine lv_iconst (v := 0) hx hb dX7_create_148 (by decide) ?_
          refine va_put (D := (dC, dI)) (ci := 6) (v := .int 0) (ty := .int) (C := RX6) (T := TX6) (N := 7) hx hb hts hi6 tyX6 tyX6_ok nmX6 hown hK hP hD hS 27 rfl rfl 5 (by decide) (hts (.fieldLink RX7 92 "TallyLogsModel$Log" "known" "I") (by decide +kernel)) (fun _ h9 => h9) rfl (by decide +kernel) rfl rfl (Nat.le_of_ble_eq_true rfl) dX7_create_149 (fun H locs hP hD hS => ?_)
          refine lv_iinc (v := 2) (lv' := [(5, .int 2), (4, .int v555), (0, .ref (w 0)), (1, .int 1), (2, .int xr), (3, .int xm)]) hx hb dX7_create_152 hl (k := 0) rfl (by decide) (by decide) rfl (fun ls hl => ?_)
          refine lv_goto (tgt := 117) hx hb dX7_create_155 (by decide) ?_
          refine lv_iload hx hb dX7_create_117 (lv_at hl 0 rfl) ?_
          refine lv_iconst (v := 5) hx hb dX7_create_119 (by decide) ?_
          refine lv_icmp_ge (tgt := 158) hx hb dX7_create_120 (by decide) (fun c577 => ?_) (fun c577 => ?_)
          · exact absurd c577 (by decide)
          refine lv_aload_n hx hb dX7_create_123 rfl (lv_at hl 2 rfl) ?_
          refine va_get (D := (dC, dI)) (ci := 7) (v := .ref (w 1)) (C := RX7) (T := TX7) (N := 18) hx hb hts hi7 hown hK hP 0 rfl rfl 0 (by decide) (hts (.fieldLink RX7 11 "TallyLogsModel" "log" "[[LTallyLogsModel$Log;") (by decide +kernel)) (fun _ h9 => h9) rfl dX7_create_124 ?_
          refine lv_iload_n hx hb dX7_create_127 rfl (lv_at hl 3 rfl) ?_
          refine xg_aldg hx hb hK hP 16 2 rfl rfl (by unfold vp_in; decide) dX7_create_128 ?_
          refine W.eq (g2 := F0 m 129 ls [.ref (u 1)]) rfl ?_
          refine lv_iload hx hb dX7_create_129 (lv_at hl 0 rfl) ?_
          refine va_aldq hx hb hK hP 18 3 rfl rfl (by unfold vp_in; decide) dX7_create_131 ?_
          refine W.eq (g2 := F0 m 132 ls [.ref (u 11)]) rfl ?_
          refine lv_aload_n hx hb dX7_create_132 rfl (lv_at hl 2 rfl) ?_
          refine va_get (D := (dC, dI)) (ci := 7) (v := .int 0) (C := RX7) (T := TX7) (N := 18) hx hb hts hi7 hown hK hP 0 rfl rfl 17 (by decide) (hts (.fieldLink RX7 119 "TallyLogsModel" "now" "I") (by decide +kernel)) (fun _ h9 => h9) rfl dX7_create_133 ?_
          refine va_put (D := (dC, dI)) (ci := 6) (v := .int 0) (ty := .int) (C := RX6) (T := TX6) (N := 7) hx hb hts hi6 tyX6 tyX6_ok nmX6 hown hK hP hD hS 28 rfl rfl 6 (by decide) (hts (.fieldLink RX7 122 "TallyLogsModel$Log" "caught" "I") (by decide +kernel)) (fun _ h9 => h9) rfl (by decide +kernel) rfl rfl (Nat.le_of_ble_eq_true rfl) dX7_create_136 (fun H locs hP hD hS => ?_)
          refine lv_aload_n hx hb dX7_create_139 rfl (lv_at hl 2 rfl) ?_
          refine va_get (D := (dC, dI)) (ci := 7) (v := .ref (w 1)) (C := RX7) (T := TX7) (N := 18) hx hb hts hi7 hown hK hP 0 rfl rfl 0 (by decide) (hts (.fieldLink RX7 11 "TallyLogsModel" "log" "[[LTallyLogsModel$Log;") (by decide +kernel)) (fun _ h9 => h9) rfl dX7_create_140 ?_
          refine lv_iload_n hx hb dX7_create_143 rfl (lv_at hl 3 rfl) ?_
          refine xg_aldg hx hb hK hP 16 2 rfl rfl (by unfold vp_in; decide) dX7_create_144 ?_
          refine W.eq (g2 := F0 m 145 ls [.ref (u 1)]) rfl ?_
          refine lv_iload hx hb dX7_create_145 (lv_at hl 0 rfl) ?_
          refine va_aldq hx hb hK hP 18 3 rfl rfl (by unfold vp_in; decide) dX7_create_147 ?_
          refine W.eq (g2 := F0 m 148 ls [.ref (u 11)]) rfl ?_
          refine lv_iconst (v := 0) hx hb dX7_create_148 (by decide) ?_
          refine va_put (D := (dC, dI)) (ci := 6) (v := .int 0) (ty := .int) (C := RX6) (T := TX6) (N := 7) hx hb hts hi6 tyX6 tyX6_ok nmX6 hown hK hP hD hS 28 rfl rfl 5 (by decide) (hts (.fieldLink RX7 92 "TallyLogsModel$Log" "known" "I") (by decide +kernel)) (fun _ h9 => h9) rfl (by decide +kernel) rfl rfl (Nat.le_of_ble_eq_true rfl) dX7_create_149 (fun H locs hP hD hS => ?_)
          refine lv_iinc (v := 3) (lv' := [(5, .int 3), (4, .int v555), (0, .ref (w 0)), (1, .int 1), (2, .int xr), (3, .int xm)]) hx hb dX7_create_152 hl (k := 0) rfl (by decide) (by decide) rfl (fun ls hl => ?_)
          refine lv_goto (tgt := 117) hx hb dX7_create_155 (by decide) ?_
          refine lv_iload hx hb dX7_create_117 (lv_at hl 0 rfl) ?_
          refine lv_iconst (v := 5) hx hb dX7_create_119 (by decide) ?_
          refine lv_icmp_ge (tgt := 158) hx hb dX7_create_120 (by decide) (fun c578 => ?_) (fun c578 => ?_)
          · exact absurd c578 (by decide)
          refine lv_aload_n hx hb dX7_create_123 rfl (lv_at hl 2 rfl) ?_
          refine va_get (D := (dC, dI)) (ci := 7) (v := .ref (w 1)) (C := RX7) (T := TX7) (N := 18) hx hb hts hi7 hown hK hP 0 rfl rfl 0 (by decide) (hts (.fieldLink RX7 11 "TallyLogsModel" "log" "[[LTallyLogsModel$Log;") (by decide +kernel)) (fun _ h9 => h9) rfl dX7_create_124 ?_
          refine lv_iload_n hx hb dX7_create_127 rfl (lv_at hl 3 rfl) ?_
          refine xg_aldg hx hb hK hP 16 2 rfl rfl (by unfold vp_in; decide) dX7_create_128 ?_
          refine W.eq (g2 := F0 m 129 ls [.ref (u 1)]) rfl ?_
          refine lv_iload hx hb dX7_create_129 (lv_at hl 0 rfl) ?_
          refine va_aldq hx hb hK hP 18 3 rfl rfl (by unfold vp_in; decide) dX7_create_131 ?_
          refine W.eq (g2 := F0 m 132 ls [.ref (u 12)]) rfl ?_
          refine lv_aload_n hx hb dX7_create_132 rfl (lv_at hl 2 rfl) ?_
          refine va_get (D := (dC, dI)) (ci := 7) (v := .int 0) (C := RX7) (T := TX7) (N := 18) hx hb hts hi7 hown hK hP 0 rfl rfl 17 (by decide) (hts (.fieldLink RX7 119 "TallyLogsModel" "now" "I") (by decide +kernel)) (fun _ h9 => h9) rfl dX7_create_133 ?_
          refine va_put (D := (dC, dI)) (ci := 6) (v := .int 0) (ty := .int) (C := RX6) (T := TX6) (N := 7) hx hb hts hi6 tyX6 tyX6_ok nmX6 hown hK hP hD hS 29 rfl rfl 6 (by decide) (hts (.fieldLink RX7 122 "TallyLogsModel$Log" "caught" "I") (by decide +kernel)) (fun _ h9 => h9) rfl (by decide +kernel) rfl rfl (Nat.le_of_ble_eq_true rfl) dX7_create_136 (fun H locs hP hD hS => ?_)
          refine lv_aload_n hx hb dX7_create_139 rfl (lv_at hl 2 rfl) ?_
          refine va_get (D := (dC, dI)) (ci := 7) (v := .ref (w 1)) (C := RX7) (T := TX7) (N := 18) hx hb hts hi7 hown hK hP 0 rfl rfl 0 (by decide) (hts (.fieldLink RX7 11 "TallyLogsModel" "log" "[[LTallyLogsModel$Log;") (by decide +kernel)) (fun _ h9 => h9) rfl dX7_create_140 ?_
          refine lv_iload_n hx hb dX7_create_143 rfl (lv_at hl 3 rfl) ?_
          refine xg_aldg hx hb hK hP 16 2 rfl rfl (by unfold vp_in; decide) dX7_create_144 ?_
          refine W.eq (g2 := F0 m 145 ls [.ref (u 1)]) rfl ?_
          refine lv_iload hx hb dX7_create_145 (lv_at hl 0 rfl) ?_
          refine va_aldq hx hb hK hP 18 3 rfl rfl (by unfold vp_in; decide) dX7_create_147 ?_
          refine W.eq (g2 := F0 m 148 ls [.ref (u 12)]) rfl ?_
          refine lv_iconst (v := 0) hx hb dX7_create_148 (by decide) ?_
          refine va_put (D := (dC, dI)) (ci := 6) (v := .int 0) (ty := .int) (C := RX6) (T := TX6) (N := 7) hx hb hts hi6 tyX6 tyX6_ok nmX6 hown hK hP hD hS 29 rfl rfl 5 (by decide) (hts (.fieldLink RX7 92 "TallyLogsModel$Log" "known" "I") (by decide +kernel)) (fun _ h9 => h9) rfl (by decide +kernel) rfl rfl (Nat.le_of_ble_eq_true rfl) dX7_create_149 (fun H locs hP hD hS => ?_)
          refine lv_iinc (v := 4) (lv' := [(5, .int 4), (4, .int v555), (0, .ref (w 0)), (1, .int 1), (2, .int xr), (3, .int xm)]) hx hb dX7_create_152 hl (k := 0) rfl (by decide) (by decide) rfl (fun ls hl => ?_)
          refine lv_goto (tgt := 117) hx hb dX7_create_155 (by decide) ?_
          refine lv_iload hx hb dX7_create_117 (lv_at hl 0 rfl) ?_
          refine lv_iconst (v := 5) hx hb dX7_create_119 (by decide) ?_
          refine lv_icmp_ge (tgt := 158) hx hb dX7_create_120 (by decide) (fun c579 => ?_) (fun c579 => ?_)
          · exact absurd c579 (by decide)
          refine lv_aload_n hx hb dX7_create_123 rfl (lv_at hl 2 rfl) ?_
          refine va_get (D := (dC, dI)) (ci := 7) (v := .ref (w 1)) (C := RX7) (T := TX7) (N := 18) hx hb hts hi7 hown hK hP 0 rfl rfl 0 (by decide) (hts (.fieldLink RX7 11 "TallyLogsModel" "log" "[[LTallyLogsModel$Log;") (by decide +kernel)) (fun _ h9 => h9) rfl dX7_create_124 ?_
          refine lv_iload_n hx hb dX7_create_127 rfl (lv_at hl 3 rfl) ?_
          refine xg_aldg hx hb hK hP 16 2 rfl rfl (by unfold vp_in; decide) dX7_create_128 ?_
          refine W.eq (g2 := F0 m 129 ls [.ref (u 1)]) rfl ?_
          refine lv_iload hx hb dX7_create_129 (lv_at hl 0 rfl) ?_
          refine va_aldq hx hb hK hP 18 3 rfl rfl (by unfold vp_in; decide) dX7_create_131 ?_
          refine W.eq (g2 := F0 m 132 ls [.ref (u 13)]) rfl ?_
          refine lv_aload_n hx hb dX7_create_132 rfl (lv_at hl 2 rfl) ?_
          refine va_get (D := (dC, dI)) (ci := 7) (v := .int 0) (C := RX7) (T := TX7) (N := 18) hx hb hts hi7 hown hK hP 0 rfl rfl 17 (by decide) (hts (.fieldLink RX7 119 "TallyLogsModel" "now" "I") (by decide +kernel)) (fun _ h9 => h9) rfl dX7_create_133 ?_
          refine va_put (D := (dC, dI)) (ci := 6) (v := .int 0) (ty := .int) (C := RX6) (T := TX6) (N := 7) hx hb hts hi6 tyX6 tyX6_ok nmX6 hown hK hP hD hS 30 rfl rfl 6 (by decide) (hts (.fieldLink RX7 122 "TallyLogsModel$Log" "caught" "I") (by decide +kernel)) (fun _ h9 => h9) rfl (by decide +kernel) rfl rfl (Nat.le_of_ble_eq_true rfl) dX7_create_136 (fun H locs hP hD hS => ?_)
          refine lv_aload_n hx hb dX7_create_139 rfl (lv_at hl 2 rfl) ?_
          refine va_get (D := (dC, dI)) (ci := 7) (v := .ref (w 1)) (C := RX7) (T := TX7) (N := 18) hx hb hts hi7 hown hK hP 0 rfl rfl 0 (by decide) (hts (.fieldLink RX7 11 "TallyLogsModel" "log" "[[LTallyLogsModel$Log;") (by decide +kernel)) (fun _ h9 => h9) rfl dX7_create_140 ?_
          refine lv_iload_n hx hb dX7_create_143 rfl (lv_at hl 3 rfl) ?_
          refine xg_aldg hx hb hK hP 16 2 rfl rfl (by unfold vp_in; decide) dX7_create_144 ?_
          refine W.eq (g2 := F0 m 145 ls [.ref (u 1)]) rfl ?_
          refine lv_iload hx hb dX7_create_145 (lv_at hl 0 rfl) ?_
          refine va_aldq hx hb hK hP 18 3 rfl rfl (by unfold vp_in; decide) dX7_create_147 ?_
          refine W.eq (g2 := F0 m 148 ls [.ref (u 13)]) rfl ?_
          refine lv_iconst (v := 0) hx hb dX7_create_148 (by decide) ?_
          refine va_put (D := (dC, dI)) (ci := 6) (v := .int 0) (ty := .int) (C := RX6) (T := TX6) (N := 7) hx hb hts hi6 tyX6 tyX6_ok nmX6 hown hK hP hD hS 30 rfl rfl 5 (by decide) (hts (.fieldLink RX7 92 "TallyLogsModel$Log" "known" "I") (by decide +kernel)) (fun _ h9 => h9) rfl (by decide +kernel) rfl rfl (Nat.le_of_ble_eq_true rfl) dX7_create_149 (fun H locs hP hD hS => ?_)
          refine lv_iinc (v := 5) (lv' := [(5, .int 5), (4, .int v555), (0, .ref (w 0)), (1, .int 1), (2, .int xr), (3, .int xm)]) hx hb dX7_create_152 hl (k := 0) rfl (by decide) (by decide) rfl (fun ls hl => ?_)
          refine lv_goto (tgt := 117) hx hb dX7_create_155 (by decide) ?_
          refine lv_iload hx hb dX7_create_117 (lv_at hl 0 rfl) ?_
          refine lv_iconst (v := 5) hx hb dX7_create_119 (by decide) ?_
          refine lv_icmp_ge (tgt := 158) hx hb dX7_create_120 (by decide) (fun c580 => ?_) (fun c580 => ?_)
          rotate_left
          · exact absurd c580 (by decide)
          refine lv_aload_n hx hb dX7_create_158 rfl (lv_at hl 2 rfl) ?_
          refine va_get (D := (dC, dI)) (ci := 7) (v := .ref (w 4)) (C := RX7) (T := TX7) (N := 18) hx hb hts hi7 hown hK hP 0 rfl rfl 3 (by decide) (hts (.fieldLink RX7 22 "TallyLogsModel" "leader" "[I") (by decide +kernel)) (fun _ h9 => h9) rfl dX7_create_159 ?_
          refine lv_iload_n hx hb dX7_create_162 rfl (lv_at hl 3 rfl) ?_
          refine va_iald hx hb hK hP 3 1 rfl rfl (by unfold vp_in; decide) dX7_create_163 ?_
          refine W.eq (g2 := F0 m 164 ls [.int (sp_nz v573)]) (by rw [pk_us]) ?_
          exact W.iret (v := (sp_nz v573)) hx hb hr (fun t ht hW => ⟨⟨(sp_nz v573), (), rfl, by show _ = _; subst ev555; subst ev563; subst ev573; have kc557 := (not_congr (sp_in_0 (1 : Int32) 0 3)).mp c557; have kc562 := (not_congr (sp_in_0 xm 1 ((sp_bc v555).toInt64))).mp c562; simp only [xk_eq, Int32.toInt_toInt64, xk_lt, xk_le, xk_0, xk_1, xk_2, xk_3, xk_4, xk_5, xk_6, xk_7, xk_8, xk_50, xl_0, xl_1, xl_3, xl_4, xl_5, xl_6, xl_7, xl_50] at kc557 kc562; unfold sp_ce; rw [if_neg (by first | decide | (simp only [xk_0, xk_1, xk_2, xk_3]; omega)), if_neg (by omega), if_neg c564]; exact sp_lz _ c564, trivial⟩, hS.F ht⟩) hS.2.2 dX7_create_164
        · obtain rfl : xp = 2 := hxp
          refine lv_aload_n hx hb dX7_create_57 rfl (lv_at hl 1 rfl) ?_
          refine va_get (D := (dC, dI)) (ci := 7) (v := .ref (w 2)) (C := RX7) (T := TX7) (N := 18) hx hb hts hi7 hown hK hP 0 rfl rfl 1 (by decide) (hts (.fieldLink RX7 14 "TallyLogsModel" "there" "[Z") (by decide +kernel)) (fun _ h9 => h9) rfl dX7_create_58 ?_
          refine lv_iload_n hx hb dX7_create_61 rfl (lv_at hl 2 rfl) ?_
          refine lv_iconst (v := 1) hx hb dX7_create_62 (by decide) ?_
          refine va_zast hx hb hK hP hD hS 1 0 rfl rfl (by unfold vp_in; decide) dX7_create_63  (fun H locs hP hD hS => ?_)
          refine lv_aload_n hx hb dX7_create_64 rfl (lv_at hl 1 rfl) ?_
          refine va_get (D := (dC, dI)) (ci := 7) (v := .ref (w 3)) (C := RX7) (T := TX7) (N := 18) hx hb hts hi7 hown hK hP 0 rfl rfl 2 (by decide) (hts (.fieldLink RX7 18 "TallyLogsModel" "replicas" "[I") (by decide +kernel)) (fun _ h9 => h9) rfl dX7_create_65 ?_
          refine lv_iload_n hx hb dX7_create_68 rfl (lv_at hl 2 rfl) ?_
          refine lv_iload hx hb dX7_create_69 (lv_at hl 0 rfl) ?_
          refine va_iast hx hb hK hP hD hS 2 1 rfl rfl (by unfold vp_in; decide) dX7_create_71  (fun H locs hP hD hS => ?_)
          refine lv_aload_n hx hb dX7_create_72 rfl (lv_at hl 1 rfl) ?_
          refine va_get (D := (dC, dI)) (ci := 7) (v := .ref (w 6)) (C := RX7) (T := TX7) (N := 18) hx hb hts hi7 hown hK hP 0 rfl rfl 5 (by decide) (hts (.fieldLink RX7 28 "TallyLogsModel" "min" "[I") (by decide +kernel)) (fun _ h9 => h9) rfl dX7_create_73 ?_
          refine lv_iload_n hx hb dX7_create_76 rfl (lv_at hl 2 rfl) ?_
          refine lv_iload_n hx hb dX7_create_77 rfl (lv_at hl 4 rfl) ?_
          refine va_iast hx hb hK hP hD hS 5 1 rfl rfl (by unfold vp_in; decide) dX7_create_78  (fun H locs hP hD hS => ?_)
          refine lv_aload_n hx hb dX7_create_79 rfl (lv_at hl 1 rfl) ?_
          refine va_get (D := (dC, dI)) (ci := 7) (v := .ref (w 5)) (C := RX7) (T := TX7) (N := 18) hx hb hts hi7 hown hK hP 0 rfl rfl 4 (by decide) (hts (.fieldLink RX7 25 "TallyLogsModel" "epoch" "[I") (by decide +kernel)) (fun _ h9 => h9) rfl dX7_create_80 ?_
          refine lv_iload_n hx hb dX7_create_83 rfl (lv_at hl 2 rfl) ?_
          refine lv_iconst (v := 0) hx hb dX7_create_84 (by decide) ?_
          refine va_iast hx hb hK hP hD hS 4 1 rfl rfl (by unfold vp_in; decide) dX7_create_85  (fun H locs hP hD hS => ?_)
          refine lv_aload_n hx hb dX7_create_86 rfl (lv_at hl 1 rfl) ?_
          refine va_get (D := (dC, dI)) (ci := 7) (v := .ref (w 7)) (C := RX7) (T := TX7) (N := 18) hx hb hts hi7 hown hK hP 0 rfl rfl 6 (by decide) (hts (.fieldLink RX7 31 "TallyLogsModel" "step" "[I") (by decide +kernel)) (fun _ h9 => h9) rfl dX7_create_87 ?_
          refine lv_iload_n hx hb dX7_create_90 rfl (lv_at hl 2 rfl) ?_
          refine lv_iload hx hb dX7_create_91 (lv_at hl 0 rfl) ?_
          refine lv_aload_n hx hb dX7_create_93 rfl (lv_at hl 1 rfl) ?_
          refine va_get (D := (dC, dI)) (ci := 7) (v := .int 31) (C := RX7) (T := TX7) (N := 18) hx hb hts hi7 hown hK hP 0 rfl rfl 16 (by decide) (hts (.fieldLink RX7 61 "TallyLogsModel" "up" "I") (by decide +kernel)) (fun _ h9 => h9) rfl dX7_create_94 ?_
          refine lv_iand hx hb dX7_create_97 ?_
          refine lv_topi (fun v581 ev581 => ?_)
          refine va_iast hx hb hK hP hD hS 6 1 rfl rfl (by unfold vp_in; decide) dX7_create_98  (fun H locs hP hD hS => ?_)
          refine lv_aload_n hx hb dX7_create_99 rfl (lv_at hl 1 rfl) ?_
          refine va_get (D := (dC, dI)) (ci := 7) (v := .ref (w 4)) (C := RX7) (T := TX7) (N := 18) hx hb hts hi7 hown hK hP 0 rfl rfl 3 (by decide) (hts (.fieldLink RX7 22 "TallyLogsModel" "leader" "[I") (by decide +kernel)) (fun _ h9 => h9) rfl dX7_create_100 ?_
          refine lv_iload_n hx hb dX7_create_103 rfl (lv_at hl 2 rfl) ?_
          refine lv_aload_n hx hb dX7_create_104 rfl (lv_at hl 1 rfl) ?_
          refine va_get (D := (dC, dI)) (ci := 7) (v := .ref (w 7)) (C := RX7) (T := TX7) (N := 18) hx hb hts hi7 hown hK hP 0 rfl rfl 6 (by decide) (hts (.fieldLink RX7 31 "TallyLogsModel" "step" "[I") (by decide +kernel)) (fun _ h9 => h9) rfl dX7_create_105 ?_
          refine lv_iload_n hx hb dX7_create_108 rfl (lv_at hl 2 rfl) ?_
          refine va_iald hx hb hK hP 6 1 rfl rfl (by unfold vp_in; decide) dX7_create_109 ?_
          refine W.eq (g2 := F0 m 110 ls [.int v581, .int 2, .ref (w 4)]) (by rw [pk_us]) ?_
          refine vp_callSi (W.runS (As := [.int v581]) (rest := [.int 2, .ref (w 4)]) ⟨hx, hb, hml, hown, hts⟩ (c_J6_numberOfTrailingZeros_0f7a4 l v581) (va_cwS 1 hts gX7_create_J6_numberOfTrailingZeros_0f7a4 rfl rfl rfl (by decide +kernel) ⟨Nat.le_of_ble_eq_true rfl, Nat.le_of_ble_eq_true rfl⟩) preEq rfl rfl hl.1 rfl (lv_room (Nat.le_of_ble_eq_true rfl)) dX7_create_110 ⟨Nat.le_of_ble_eq_true rfl, Nat.le_of_ble_eq_true rfl⟩) (fun r582 hr582 => ?_)
          subst hr582
          refine va_iast hx hb hK hP hD hS 3 1 rfl rfl (by unfold vp_in; decide) dX7_create_113  (fun H locs hP hD hS => ?_)
          refine lv_iconst (v := 0) hx hb dX7_create_114 (by decide) ?_
          refine lv_istore (lv' := [(5, .int 0), (4, .int v555), (0, .ref (w 0)), (1, .int 2), (2, .int xr), (3, .int xm)]) hx hb dX7_create_115 hl (by decide) rfl (fun ls hl => ?_)
          refine lv_iload hx hb dX7_create_117 (lv_at hl 0 rfl) ?_
          refine lv_iconst (v := 5) hx hb dX7_create_119 (by decide) ?_
          refine lv_icmp_ge (tgt := 158) hx hb dX7_create_120 (by decide) (fun c583 => ?_) (fun c583 => ?_)
          · exact absurd c583 (by decide)
          refine lv_aload_n hx hb dX7_create_123 rfl (lv_at hl 2 rfl) ?_
          refine va_get (D := (dC, dI)) (ci := 7) (v := .ref (w 1)) (C := RX7) (T := TX7) (N := 18) hx hb hts hi7 hown hK hP 0 rfl rfl 0 (by decide) (hts (.fieldLink RX7 11 "TallyLogsModel" "log" "[[LTallyLogsModel$Log;") (by decide +kernel)) (fun _ h9 => h9) rfl dX7_create_124 ?_
          refine lv_iload_n hx hb dX7_create_127 rfl (lv_at hl 3 rfl) ?_
          refine xg_aldg hx hb hK hP 16 2 rfl rfl (by unfold vp_in; decide) dX7_create_128 ?_
          refine W.eq (g2 := F0 m 129 ls [.ref (u 2)]) rfl ?_
          refine lv_iload hx hb dX7_create_129 (lv_at hl 0 rfl) ?_
          refine va_aldq hx hb hK hP 19 3 rfl rfl (by unfold vp_in; decide) dX7_create_131 ?_
          refine W.eq (g2 := F0 m 132 ls [.ref (u 14)]) rfl ?_
          refine lv_aload_n hx hb dX7_create_132 rfl (lv_at hl 2 rfl) ?_
          refine va_get (D := (dC, dI)) (ci := 7) (v := .int 0) (C := RX7) (T := TX7) (N := 18) hx hb hts hi7 hown hK hP 0 rfl rfl 17 (by decide) (hts (.fieldLink RX7 119 "TallyLogsModel" "now" "I") (by decide +kernel)) (fun _ h9 => h9) rfl dX7_create_133 ?_
          refine va_put (D := (dC, dI)) (ci := 6) (v := .int 0) (ty := .int) (C := RX6) (T := TX6) (N := 7) hx hb hts hi6 tyX6 tyX6_ok nmX6 hown hK hP hD hS 31 rfl rfl 6 (by decide) (hts (.fieldLink RX7 122 "TallyLogsModel$Log" "caught" "I") (by decide +kernel)) (fun _ h9 => h9) rfl (by decide +kernel) rfl rfl (Nat.le_of_ble_eq_true rfl) dX7_create_136 (fun H locs hP hD hS => ?_)
          refine lv_aload_n hx hb dX7_create_139 rfl (lv_at hl 2 rfl) ?_
          refine va_get (D := (dC, dI)) (ci := 7) (v := .ref (w 1)) (C := RX7) (T := TX7) (N := 18) hx hb hts hi7 hown hK hP 0 rfl rfl 0 (by decide) (hts (.fieldLink RX7 11 "TallyLogsModel" "log" "[[LTallyLogsModel$Log;") (by decide +kernel)) (fun _ h9 => h9) rfl dX7_create_140 ?_
          refine lv_iload_n hx hb dX7_create_143 rfl (lv_at hl 3 rfl) ?_
          refine xg_aldg hx hb hK hP 16 2 rfl rfl (by unfold vp_in; decide) dX7_create_144 ?_
          refine W.eq (g2 := F0 m 145 ls [.ref (u 2)]) rfl ?_
          refine lv_iload hx hb dX7_create_145 (lv_at hl 0 rfl) ?_
          refine va_aldq hx hb hK hP 19 3 rfl rfl (by unfold vp_in; decide) dX7_create_147 ?_
          refine W.eq (g2 := F0 m 148 ls [.ref (u 14)]) rfl ?_
          refine lv_iconst (v := 0) hx hb dX7_create_148 (by decide) ?_
          refine va_put (D := (dC, dI)) (ci := 6) (v := .int 0) (ty := .int) (C := RX6) (T := TX6) (N := 7) hx hb hts hi6 tyX6 tyX6_ok nmX6 hown hK hP hD hS 31 rfl rfl 5 (by decide) (hts (.fieldLink RX7 92 "TallyLogsModel$Log" "known" "I") (by decide +kernel)) (fun _ h9 => h9) rfl (by decide +kernel) rfl rfl (Nat.le_of_ble_eq_true rfl) dX7_create_149 (fun H locs hP hD hS => ?_)
          refine lv_iinc (v := 1) (lv' := [(5, .int 1), (4, .int v555), (0, .ref (w 0)), (1, .int 2), (2, .int xr), (3, .int xm)]) hx hb dX7_create_152 hl (k := 0) rfl (by decide) (by decide) rfl (fun ls hl => ?_)
          refine lv_goto (tgt := 117) hx hb dX7_create_155 (by decide) ?_
          refine lv_iload hx hb dX7_create_117 (lv_at hl 0 rfl) ?_
          refine lv_iconst (v := 5) hx hb dX7_create_119 (by decide) ?_
          refine lv_icmp_ge (tgt := 158) hx hb dX7_create_120 (by decide) (fun c584 => ?_) (fun c584 => ?_)
          · exact absurd c584 (by decide)
          refine lv_aload_n hx hb dX7_create_123 rfl (lv_at hl 2 rfl) ?_
          refine va_get (D := (dC, dI)) (ci := 7) (v := .ref (w 1)) (C := RX7) (T := TX7) (N := 18) hx hb hts hi7 hown hK hP 0 rfl rfl 0 (by decide) (hts (.fieldLink RX7 11 "TallyLogsModel" "log" "[[LTallyLogsModel$Log;") (by decide +kernel)) (fun _ h9 => h9) rfl dX7_create_124 ?_
          refine lv_iload_n hx hb dX7_create_127 rfl (lv_at hl 3 rfl) ?_
          refine xg_aldg hx hb hK hP 16 2 rfl rfl (by unfold vp_in; decide) dX7_create_128 ?_
          refine W.eq (g2 := F0 m 129 ls [.ref (u 2)]) rfl ?_
          refine lv_iload hx hb dX7_create_129 (lv_at hl 0 rfl) ?_
          refine va_aldq hx hb hK hP 19 3 rfl rfl (by unfold vp_in; decide) dX7_create_131 ?_
          refine W.eq (g2 := F0 m 132 ls [.ref (u 15)]) rfl ?_
          refine lv_aload_n hx hb dX7_create_132 rfl (lv_at hl 2 rfl) ?_
          refine va_get (D := (dC, dI)) (ci := 7) (v := .int 0) (C := RX7) (T := TX7) (N := 18) hx hb hts hi7 hown hK hP 0 rfl rfl 17 (by decide) (hts (.fieldLink RX7 119 "TallyLogsModel" "now" "I") (by decide +kernel)) (fun _ h9 => h9) rfl dX7_create_133 ?_
          refine va_put (D := (dC, dI)) (ci := 6) (v := .int 0) (ty := .int) (C := RX6) (T := TX6) (N := 7) hx hb hts hi6 tyX6 tyX6_ok nmX6 hown hK hP hD hS 32 rfl rfl 6 (by decide) (hts (.fieldLink RX7 122 "TallyLogsModel$Log" "caught" "I") (by decide +kernel)) (fun _ h9 => h9) rfl (by decide +kernel) rfl rfl (Nat.le_of_ble_eq_true rfl) dX7_create_136 (fun H locs hP hD hS => ?_)
          refine lv_aload_n hx hb dX7_create_139 rfl (lv_at hl 2 rfl) ?_
          refine va_get (D := (dC, dI)) (ci := 7) (v := .ref (w 1)) (C := RX7) (T := TX7) (N := 18) hx hb hts hi7 hown hK hP 0 rfl rfl 0 (by decide) (hts (.fieldLink RX7 11 "TallyLogsModel" "log" "[[LTallyLogsModel$Log;") (by decide +kernel)) (fun _ h9 => h9) rfl dX7_create_140 ?_
          refine lv_iload_n hx hb dX7_create_143 rfl (lv_at hl 3 rfl) ?_
          refine xg_aldg hx hb hK hP 16 2 rfl rfl (by unfold vp_in; decide) dX7_create_144 ?_
          refine W.eq (g2 := F0 m 145 ls [.ref (u 2)]) rfl ?_
          refine lv_iload hx hb dX7_create_145 (lv_at hl 0 rfl) ?_
          refine va_aldq hx hb hK hP 19 3 rfl rfl (by unfold vp_in; decide) dX7_create_147 ?_
          refine W.eq (g2 := F0 m 148 ls [.ref (u 15)]) rfl ?_
          refine lv_iconst (v := 0) hx hb dX7_create_148 (by decide) ?_
          refine va_put (D := (dC, dI)) (ci := 6) (v := .int 0) (ty := .int) (C := RX6) (T := TX6) (N := 7) hx hb hts hi6 tyX6 tyX6_ok nmX6 hown hK hP hD hS 32 rfl rfl 5 (by decide) (hts (.fieldLink RX7 92 "TallyLogsModel$Log" "known" "I") (by decide +kernel)) (fun _ h9 => h9) rfl (by decide +kernel) rfl rfl (Nat.le_of_ble_eq_true rfl) dX7_create_149 (fun H locs hP hD hS => ?_)
          refine lv_iinc (v := 2) (lv' := [(5, .int 2), (4, .int v555), (0, .ref (w 0)), (1, .int 2), (2, .int xr), (3, .int xm)]) hx hb dX7_create_152 hl (k := 0) rfl (by decide) (by decide) rfl (fun ls hl => ?_)
          refine lv_goto (tgt := 117) hx hb dX7_create_155 (by decide) ?_
          refine lv_iload hx hb dX7_create_117 (lv_at hl 0 rfl) ?_
          refine lv_iconst (v := 5) hx hb dX7_create_119 (by decide) ?_
          refine lv_icmp_ge (tgt := 158) hx hb dX7_create_120 (by decide) (fun c585 => ?_) (fun c585 => ?_)
          · exact absurd c585 (by decide)
          refine lv_aload_n hx hb dX7_create_123 rfl (lv_at hl 2 rfl) ?_
          refine va_get (D := (dC, dI)) (ci := 7) (v := .ref (w 1)) (C := RX7) (T := TX7) (N := 18) hx hb hts hi7 hown hK hP 0 rfl rfl 0 (by decide) (hts (.fieldLink RX7 11 "TallyLogsModel" "log" "[[LTallyLogsModel$Log;") (by decide +kernel)) (fun _ h9 => h9) rfl dX7_create_124 ?_
          refine lv_iload_n hx hb dX7_create_127 rfl (lv_at hl 3 rfl) ?_
          refine xg_aldg hx hb hK hP 16 2 rfl rfl (by unfold vp_in; decide) dX7_create_128 ?_
          refine W.eq (g2 := F0 m 129 ls [.ref (u 2)]) rfl ?_
          refine lv_iload hx hb dX7_create_129 (lv_at hl 0 rfl) ?_
          refine va_aldq hx hb hK hP 19 3 rfl rfl (by unfold vp_in; decide) dX7_create_131 ?_
          refine W.eq (g2 := F0 m 132 ls [.ref (u 16)]) rfl ?_
          refine lv_aload_n hx hb dX7_create_132 rfl (lv_at hl 2 rfl) ?_
          refine va_get (D := (dC, dI)) (ci := 7) (v := .int 0) (C := RX7) (T := TX7) (N := 18) hx hb hts hi7 hown hK hP 0 rfl rfl 17 (by decide) (hts (.fieldLink RX7 119 "TallyLogsModel" "now" "I") (by decide +kernel)) (fun _ h9 => h9) rfl dX7_create_133 ?_
          refine va_put (D := (dC, dI)) (ci := 6) (v := .int 0) (ty := .int) (C := RX6) (T := TX6) (N := 7) hx hb hts hi6 tyX6 tyX6_ok nmX6 hown hK hP hD hS 33 rfl rfl 6 (by decide) (hts (.fieldLink RX7 122 "TallyLogsModel$Log" "caught" "I") (by decide +kernel)) (fun _ h9 => h9) rfl (by decide +kernel) rfl rfl (Nat.le_of_ble_eq_true rfl) dX7_create_136 (fun H locs hP hD hS => ?_)
          refine lv_aload_n hx hb dX7_create_139 rfl (lv_at hl 2 rfl) ?_
          refine va_get (D := (dC, dI)) (ci := 7) (v := .ref (w 1)) (C := RX7) (T := TX7) (N := 18) hx hb hts hi7 hown hK hP 0 rfl rfl 0 (by decide) (hts (.fieldLink RX7 11 "TallyLogsModel" "log" "[[LTallyLogsModel$Log;") (by decide +kernel)) (fun _ h9 => h9) rfl dX7_create_140 ?_
          refine lv_iload_n hx hb dX7_create_143 rfl (lv_at hl 3 rfl) ?_
          refine xg_aldg hx hb hK hP 16 2 rfl rfl (by unfold vp_in; decide) dX7_create_144 ?_
          refine W.eq (g2 := F0 m 145 ls [.ref (u 2)]) rfl ?_
          refine lv_iload hx hb dX7_create_145 (lv_at hl 0 rfl) ?_
          refine va_aldq hx hb hK hP 19 3 rfl rfl (by unfold vp_in; decide) dX7_create_147 ?_
          refine W.eq (g2 := F0 m 148 ls [.ref (u 16)]) rfl ?_
          refine lv_iconst (v := 0) hx hb dX7_create_148 (by decide) ?_
          refine va_put (D := (dC, dI)) (ci := 6) (v := .int 0) (ty := .int) (C := RX6) (T := TX6) (N := 7) hx hb hts hi6 tyX6 tyX6_ok nmX6 hown hK hP hD hS 33 rfl rfl 5 (by decide) (hts (.fieldLink RX7 92 "TallyLogsModel$Log" "known" "I") (by decide +kernel)) (fun _ h9 => h9) rfl (by decide +kernel) rfl rfl (Nat.le_of_ble_eq_true rfl) dX7_create_149 (fun H locs hP hD hS => ?_)
          refine lv_iinc (v := 3) (lv' := [(5, .int 3), (4, .int v555), (0, .ref (w 0)), (1, .int 2), (2, .int xr), (3, .int xm)]) hx hb dX7_create_152 hl (k := 0) rfl (by decide) (by decide) rfl (fun ls hl => ?_)
          refine lv_goto (tgt := 117) hx hb dX7_create_155 (by decide) ?_
          refine lv_iload hx hb dX7_create_117 (lv_at hl 0 rfl) ?_
          refine lv_iconst (v := 5) hx hb dX7_create_119 (by decide) ?_
          refine lv_icmp_ge (tgt := 158) hx hb dX7_create_120 (by decide) (fun c586 => ?_) (fun c586 => ?_)
          · exact absurd c586 (by decide)
          refine lv_aload_n hx hb dX7_create_123 rfl (lv_at hl 2 rfl) ?_
          refine va_get (D := (dC, dI)) (ci := 7) (v := .ref (w 1)) (C := RX7) (T := TX7) (N := 18) hx hb hts hi7 hown hK hP 0 rfl rfl 0 (by decide) (hts (.fieldLink RX7 11 "TallyLogsModel" "log" "[[LTallyLogsModel$Log;") (by decide +kernel)) (fun _ h9 => h9) rfl dX7_create_124 ?_
          refine lv_iload_n hx hb dX7_create_127 rfl (lv_at hl 3 rfl) ?_
          refine xg_aldg hx hb hK hP 16 2 rfl rfl (by unfold vp_in; decide) dX7_create_128 ?_
          refine W.eq (g2 := F0 m 129 ls [.ref (u 2)]) rfl ?_
          refine lv_iload hx hb dX7_create_129 (lv_at hl 0 rfl) ?_
          refine va_aldq hx hb hK hP 19 3 rfl rfl (by unfold vp_in; decide) dX7_create_131 ?_
          refine W.eq (g2 := F0 m 132 ls [.ref (u 17)]) rfl ?_
          refine lv_aload_n hx hb dX7_create_132 rfl (lv_at hl 2 rfl) ?_
          refine va_get (D := (dC, dI)) (ci := 7) (v := .int 0) (C := RX7) (T := TX7) (N := 18) hx hb hts hi7 hown hK hP 0 rfl rfl 17 (by decide) (hts (.fieldLink RX7 119 "TallyLogsModel" "now" "I") (by decide +kernel)) (fun _ h9 => h9) rfl dX7_create_133 ?_
          refine va_put (D := (dC, dI)) (ci := 6) (v := .int 0) (ty := .int) (C := RX6) (T := TX6) (N := 7) hx hb hts hi6 tyX6 tyX6_ok nmX6 hown hK hP hD hS 34 rfl rfl 6 (by decide) (hts (.fieldLink RX7 122 "TallyLogsModel$Log" "caught" "I") (by decide +kernel)) (fun _ h9 => h9) rfl (by decide +kernel) rfl rfl (Nat.le_of_ble_eq_true rfl) dX7_create_136 (fun H locs hP hD hS => ?_)
          refine lv_aload_n hx hb dX7_create_139 rfl (lv_at hl 2 rfl) ?_
          refine va_get (D := (dC, dI)) (ci := 7) (v := .ref (w 1)) (C := RX7) (T := TX7) (N := 18) hx hb hts hi7 hown hK hP 0 rfl rfl 0 (by decide) (hts (.fieldLink RX7 11 "TallyLogsModel" "log" "[[LTallyLogsModel$Log;") (by decide +kernel)) (fun _ h9 => h9) rfl dX7_create_140 ?_
          refine lv_iload_n hx hb dX7_create_143 rfl (lv_at hl 3 rfl) ?_
          refine xg_aldg hx hb hK hP 16 2 rfl rfl (by unfold vp_in; decide) dX7_create_144 ?_
          refine W.eq (g2 := F0 m 145 ls [.ref (u 2)]) rfl ?_
          refine lv_iload hx hb dX7_create_145 (lv_at hl 0 rfl) ?_
          refine va_aldq hx hb hK hP 19 3 rfl rfl (by unfold vp_in; decide) dX7_create_147 ?_
          refine W.eq (g2 := F0 m 148 ls [.ref (u 17)]) rfl ?_
          refine lv_iconst (v := 0) hx hb dX7_create_148 (by decide) ?_
          refine va_put (D := (dC, dI)) (ci := 6) (v := .int 0) (ty := .int) (C := RX6) (T := TX6) (N := 7) hx hb hts hi6 tyX6 tyX6_ok nmX6 hown hK hP hD hS 34 rfl rfl 5 (by decide) (hts (.fieldLink RX7 92 "TallyLogsModel$Log" "known" "I") (by decide +kernel)) (fun _ h9 => h9) rfl (by decide +kernel) rfl rfl (Nat.le_of_ble_eq_true rfl) dX7_create_149 (fun H locs hP hD hS => ?_)
          refine lv_iinc (v := 4) (lv' := [(5, .int 4), (4, .int v555), (0, .ref (w 0)), (1, .int 2), (2, .int xr), (3, .int xm)]) hx hb dX7_create_152 hl (k := 0) rfl (by decide) (by decide) rfl (fun ls hl => ?_)
          refine lv_goto (tgt := 117) hx hb dX7_create_155 (by decide) ?_
          refine lv_iload hx hb dX7_create_117 (lv_at hl 0 rfl) ?_
          refine lv_iconst (v := 5) hx hb dX7_create_119 (by decide) ?_
          refine lv_icmp_ge (tgt := 158) hx hb dX7_create_120 (by decide) (fun c587 => ?_) (fun c587 => ?_)
          · exact absurd c587 (by decide)
          refine lv_aload_n hx hb dX7_create_123 rfl (lv_at hl 2 rfl) ?_
          refine va_get (D := (dC, dI)) (ci := 7) (v := .ref (w 1)) (C := RX7) (T := TX7) (N := 18) hx hb hts hi7 hown hK hP 0 rfl rfl 0 (by decide) (hts (.fieldLink RX7 11 "TallyLogsModel" "log" "[[LTallyLogsModel$Log;") (by decide +kernel)) (fun _ h9 => h9) rfl dX7_create_124 ?_
          refine lv_iload_n hx hb dX7_create_127 rfl (lv_at hl 3 rfl) ?_
          refine xg_aldg hx hb hK hP 16 2 rfl rfl (by unfold vp_in; decide) dX7_create_128 ?_
          refine W.eq (g2 := F0 m 129 ls [.ref (u 2)]) rfl ?_
          refine lv_iload hx hb dX7_create_129 (lv_at hl 0 rfl) ?_
          refine va_aldq hx hb hK hP 19 3 rfl rfl (by unfold vp_in; decide) dX7_create_131 ?_
          refine W.eq (g2 := F0 m 132 ls [.ref (u 18)]) rfl ?_
          refine lv_aload_n hx hb dX7_create_132 rfl (lv_at hl 2 rfl) ?_
          refine va_get (D := (dC, dI)) (ci := 7) (v := .int 0) (C := RX7) (T := TX7) (N := 18) hx hb hts hi7 hown hK hP 0 rfl rfl 17 (by decide) (hts (.fieldLink RX7 119 "TallyLogsModel" "now" "I") (by decide +kernel)) (fun _ h9 => h9) rfl dX7_create_133 ?_
          refine va_put (D := (dC, dI)) (ci := 6) (v := .int 0) (ty := .int) (C := RX6) (T := TX6) (N := 7) hx hb hts hi6 tyX6 tyX6_ok nmX6 hown hK hP hD hS 35 rfl rfl 6 (by decide) (hts (.fieldLink RX7 122 "TallyLogsModel$Log" "caught" "I") (by decide +kernel)) (fun _ h9 => h9) rfl (by decide +kernel) rfl rfl (Nat.le_of_ble_eq_true rfl) dX7_create_136 (fun H locs hP hD hS => ?_)
          refine lv_aload_n hx hb dX7_create_139 rfl (lv_at hl 2 rfl) ?_
          refine va_get (D := (dC, dI)) (ci := 7) (v := .ref (w 1)) (C := RX7) (T := TX7) (N := 18) hx hb hts hi7 hown hK hP 0 rfl rfl 0 (by decide) (hts (.fieldLink RX7 11 "TallyLogsModel" "log" "[[LTallyLogsModel$Log;") (by decide +kernel)) (fun _ h9 => h9) rfl dX7_create_140 ?_
          refine lv_iload_n hx hb dX7_create_143 rfl (lv_at hl 3 rfl) ?_
          refine xg_aldg hx hb hK hP 16 2 rfl rfl (by unfold vp_in; decide) dX7_create_144 ?_
          refine W.eq (g2 := F0 m 145 ls [.ref (u 2)]) rfl ?_
          refine lv_iload hx hb dX7_create_145 (lv_at hl 0 rfl) ?_
          refine va_aldq hx hb hK hP 19 3 rfl rfl (by unfold vp_in; decide) dX7_create_147 ?_
          refine W.eq (g2 := F0 m 148 ls [.ref (u 18)]) rfl ?_
          refine lv_iconst (v := 0) hx hb dX7_create_148 (by decide) ?_
          refine va_put (D := (dC, dI)) (ci := 6) (v := .int 0) (ty := .int) (C := RX6) (T := TX6) (N := 7) hx hb hts hi6 tyX6 tyX6_ok nmX6 hown hK hP hD hS 35 rfl rfl 5 (by decide) (hts (.fieldLink RX7 92 "TallyLogsModel$Log" "known" "I") (by decide +kernel)) (fun _ h9 => h9) rfl (by decide +kernel) rfl rfl (Nat.le_of_ble_eq_true rfl) dX7_create_149 (fun H locs hP hD hS => ?_)
          refine lv_iinc (v := 5) (lv' := [(5, .int 5), (4, .int v555), (0, .ref (w 0)), (1, .int 2), (2, .int xr), (3, .int xm)]) hx hb dX7_create_152 hl (k := 0) rfl (by decide) (by decide) rfl (fun ls hl => ?_)
          refine lv_goto (tgt := 117) hx hb dX7_create_155 (by decide) ?_
          refine lv_iload hx hb dX7_create_117 (lv_at hl 0 rfl) ?_
          refine lv_iconst (v := 5) hx hb dX7_create_119 (by decide) ?_
          refine lv_icmp_ge (tgt := 158) hx hb dX7_create_120 (by decide) (fun c588 => ?_) (fun c588 => ?_)
          rotate_left
          · exact absurd c588 (by decide)
          refine lv_aload_n hx hb dX7_create_158 rfl (lv_at hl 2 rfl) ?_
          refine va_get (D := (dC, dI)) (ci := 7) (v := .ref (w 4)) (C := RX7) (T := TX7) (N := 18) hx hb hts hi7 hown hK hP 0 rfl rfl 3 (by decide) (hts (.fieldLink RX7 22 "TallyLogsModel" "leader" "[I") (by decide +kernel)) (fun _ h9 => h9) rfl dX7_create_159 ?_
          refine lv_iload_n hx hb dX7_create_162 rfl (lv_at hl 3 rfl) ?_
          refine va_iald hx hb hK hP 3 1 rfl rfl (by unfold vp_in; decide) dX7_create_163 ?_
          refine W.eq (g2 := F0 m 164 ls [.int (sp_nz v581)]) (by rw [pk_us]) ?_
          exact W.iret (v := (sp_nz v581)) hx hb hr (fun t ht hW => ⟨⟨(sp_nz v581), (), rfl, by show _ = _; subst ev555; subst ev563; subst ev581; have kc557 := (not_congr (sp_in_0 (2 : Int32) 0 3)).mp c557; have kc562 := (not_congr (sp_in_0 xm 1 ((sp_bc v555).toInt64))).mp c562; simp only [xk_eq, Int32.toInt_toInt64, xk_lt, xk_le, xk_0, xk_1, xk_2, xk_3, xk_4, xk_5, xk_6, xk_7, xk_8, xk_50, xl_0, xl_1, xl_3, xl_4, xl_5, xl_6, xl_7, xl_50] at kc557 kc562; unfold sp_ce; rw [if_neg (by first | decide | (simp only [xk_0, xk_1, xk_2, xk_3]; omega)), if_neg (by omega), if_neg c564]; exact sp_lz _ c564, trivial⟩, hS.F ht⟩) hS.2.2 dX7_create_164
        · obtain rfl : xp = 3 := hxp
          refine lv_aload_n hx hb dX7_create_57 rfl (lv_at hl 1 rfl) ?_
          refine va_get (D := (dC, dI)) (ci := 7) (v := .ref (w 2)) (C := RX7) (T := TX7) (N := 18) hx hb hts hi7 hown hK hP 0 rfl rfl 1 (by decide) (hts (.fieldLink RX7 14 "TallyLogsModel" "there" "[Z") (by decide +kernel)) (fun _ h9 => h9) rfl dX7_create_58 ?_
          refine lv_iload_n hx hb dX7_create_61 rfl (lv_at hl 2 rfl) ?_
          refine lv_iconst (v := 1) hx hb dX7_create_62 (by decide) ?_
          refine va_zast hx hb hK hP hD hS 1 0 rfl rfl (by unfold vp_in; decide) dX7_create_63  (fun H locs hP hD hS => ?_)
          refine lv_aload_n hx hb dX7_create_64 rfl (lv_at hl 1 rfl) ?_
          refine va_get (D := (dC, dI)) (ci := 7) (v := .ref (w 3)) (C := RX7) (T := TX7) (N := 18) hx hb hts hi7 hown hK hP 0 rfl rfl 2 (by decide) (hts (.fieldLink RX7 18 "TallyLogsModel" "replicas" "[I") (by decide +kernel)) (fun _ h9 => h9) rfl dX7_create_65 ?_
          refine lv_iload_n hx hb dX7_create_68 rfl (lv_at hl 2 rfl) ?_
          refine lv_iload hx hb dX7_create_69 (lv_at hl 0 rfl) ?_
          refine va_iast hx hb hK hP hD hS 2 1 rfl rfl (by unfold vp_in; decide) dX7_create_71  (fun H locs hP hD hS => ?_)
          refine lv_aload_n hx hb dX7_create_72 rfl (lv_at hl 1 rfl) ?_
          refine va_get (D := (dC, dI)) (ci := 7) (v := .ref (w 6)) (C := RX7) (T := TX7) (N := 18) hx hb hts hi7 hown hK hP 0 rfl rfl 5 (by decide) (hts (.fieldLink RX7 28 "TallyLogsModel" "min" "[I") (by decide +kernel)) (fun _ h9 => h9) rfl dX7_create_73 ?_
          refine lv_iload_n hx hb dX7_create_76 rfl (lv_at hl 2 rfl) ?_
          refine lv_iload_n hx hb dX7_create_77 rfl (lv_at hl 4 rfl) ?_
          refine va_iast hx hb hK hP hD hS 5 1 rfl rfl (by unfold vp_in; decide) dX7_create_78  (fun H locs hP hD hS => ?_)
          refine lv_aload_n hx hb dX7_create_79 rfl (lv_at hl 1 rfl) ?_
          refine va_get (D := (dC, dI)) (ci := 7) (v := .ref (w 5)) (C := RX7) (T := TX7) (N := 18) hx hb hts hi7 hown hK hP 0 rfl rfl 4 (by decide) (hts (.fieldLink RX7 25 "TallyLogsModel" "epoch" "[I") (by decide +kernel)) (fun _ h9 => h9) rfl dX7_create_80 ?_
          refine lv_iload_n hx hb dX7_create_83 rfl (lv_at hl 2 rfl) ?_
          refine lv_iconst (v := 0) hx hb dX7_create_84 (by decide) ?_
          refine va_iast hx hb hK hP hD hS 4 1 rfl rfl (by unfold vp_in; decide) dX7_create_85  (fun H locs hP hD hS => ?_)
          refine lv_aload_n hx hb dX7_create_86 rfl (lv_at hl 1 rfl) ?_
          refine va_get (D := (dC, dI)) (ci := 7) (v := .ref (w 7)) (C := RX7) (T := TX7) (N := 18) hx hb hts hi7 hown hK hP 0 rfl rfl 6 (by decide) (hts (.fieldLink RX7 31 "TallyLogsModel" "step" "[I") (by decide +kernel)) (fun _ h9 => h9) rfl dX7_create_87 ?_
          refine lv_iload_n hx hb dX7_create_90 rfl (lv_at hl 2 rfl) ?_
          refine lv_iload hx hb dX7_create_91 (lv_at hl 0 rfl) ?_
          refine lv_aload_n hx hb dX7_create_93 rfl (lv_at hl 1 rfl) ?_
          refine va_get (D := (dC, dI)) (ci := 7) (v := .int 31) (C := RX7) (T := TX7) (N := 18) hx hb hts hi7 hown hK hP 0 rfl rfl 16 (by decide) (hts (.fieldLink RX7 61 "TallyLogsModel" "up" "I") (by decide +kernel)) (fun _ h9 => h9) rfl dX7_create_94 ?_
          refine lv_iand hx hb dX7_create_97 ?_
          refine lv_topi (fun v589 ev589 => ?_)
          refine va_iast hx hb hK hP hD hS 6 1 rfl rfl (by unfold vp_in; decide) dX7_create_98  (fun H locs hP hD hS => ?_)
          refine lv_aload_n hx hb dX7_create_99 rfl (lv_at hl 1 rfl) ?_
          refine va_get (D := (dC, dI)) (ci := 7) (v := .ref (w 4)) (C := RX7) (T := TX7) (N := 18) hx hb hts hi7 hown hK hP 0 rfl rfl 3 (by decide) (hts (.fieldLink RX7 22 "TallyLogsModel" "leader" "[I") (by decide +kernel)) (fun _ h9 => h9) rfl dX7_create_100 ?_
          refine lv_iload_n hx hb dX7_create_103 rfl (lv_at hl 2 rfl) ?_
          refine lv_aload_n hx hb dX7_create_104 rfl (lv_at hl 1 rfl) ?_
          refine va_get (D := (dC, dI)) (ci := 7) (v := .ref (w 7)) (C := RX7) (T := TX7) (N := 18) hx hb hts hi7 hown hK hP 0 rfl rfl 6 (by decide) (hts (.fieldLink RX7 31 "TallyLogsModel" "step" "[I") (by decide +kernel)) (fun _ h9 => h9) rfl dX7_create_105 ?_
          refine lv_iload_n hx hb dX7_create_108 rfl (lv_at hl 2 rfl) ?_
          refine va_iald hx hb hK hP 6 1 rfl rfl (by unfold vp_in; decide) dX7_create_109 ?_
          refine W.eq (g2 := F0 m 110 ls [.int v589, .int 3, .ref (w 4)]) (by rw [pk_us]) ?_
          refine vp_callSi (W.runS (As := [.int v589]) (rest := [.int 3, .ref (w 4)]) ⟨hx, hb, hml, hown, hts⟩ (c_J6_numberOfTrailingZeros_0f7a4 l v589) (va_cwS 1 hts gX7_create_J6_numberOfTrailingZeros_0f7a4 rfl rfl rfl (by decide +kernel) ⟨Nat.le_of_ble_eq_true rfl, Nat.le_of_ble_eq_true rfl⟩) preEq rfl rfl hl.1 rfl (lv_room (Nat.le_of_ble_eq_true rfl)) dX7_create_110 ⟨Nat.le_of_ble_eq_true rfl, Nat.le_of_ble_eq_true rfl⟩) (fun r590 hr590 => ?_)
          subst hr590
          refine va_iast hx hb hK hP hD hS 3 1 rfl rfl (by unfold vp_in; decide) dX7_create_113  (fun H locs hP hD hS => ?_)
          refine lv_iconst (v := 0) hx hb dX7_create_114 (by decide) ?_
          refine lv_istore (lv' := [(5, .int 0), (4, .int v555), (0, .ref (w 0)), (1, .int 3), (2, .int xr), (3, .int xm)]) hx hb dX7_create_115 hl (by decide) rfl (fun ls hl => ?_)
          refine lv_iload hx hb dX7_create_117 (lv_at hl 0 rfl) ?_
          refine lv_iconst (v := 5) hx hb dX7_create_119 (by decide) ?_
          refine lv_icmp_ge (tgt := 158) hx hb dX7_create_120 (by decide) (fun c591 => ?_) (fun c591 => ?_)
          · exact absurd c591 (by decide)
          refine lv_aload_n hx hb dX7_create_123 rfl (lv_at hl 2 rfl) ?_
          refine va_get (D := (dC, dI)) (ci := 7) (v := .ref (w 1)) (C := RX7) (T := TX7) (N := 18) hx hb hts hi7 hown hK hP 0 rfl rfl 0 (by decide) (hts (.fieldLink RX7 11 "TallyLogsModel" "log" "[[LTallyLogsModel$Log;") (by decide +kernel)) (fun _ h9 => h9) rfl dX7_create_124 ?_
          refine lv_iload_n hx hb dX7_create_127 rfl (lv_at hl 3 rfl) ?_
          refine xg_aldg hx hb hK hP 16 2 rfl rfl (by unfold vp_in; decide) dX7_create_128 ?_
          refine W.eq (g2 := F0 m 129 ls [.ref (u 3)]) rfl ?_
          refine lv_iload hx hb dX7_create_129 (lv_at hl 0 rfl) ?_
          refine va_aldq hx hb hK hP 20 3 rfl rfl (by unfold vp_in; decide) dX7_create_131 ?_
          refine W.eq (g2 := F0 m 132 ls [.ref (u 19)]) rfl ?_
          refine lv_aload_n hx hb dX7_create_132 rfl (lv_at hl 2 rfl) ?_
          refine va_get (D := (dC, dI)) (ci := 7) (v := .int 0) (C := RX7) (T := TX7) (N := 18) hx hb hts hi7 hown hK hP 0 rfl rfl 17 (by decide) (hts (.fieldLink RX7 119 "TallyLogsModel" "now" "I") (by decide +kernel)) (fun _ h9 => h9) rfl dX7_create_133 ?_
          refine va_put (D := (dC, dI)) (ci := 6) (v := .int 0) (ty := .int) (C := RX6) (T := TX6) (N := 7) hx hb hts hi6 tyX6 tyX6_ok nmX6 hown hK hP hD hS 36 rfl rfl 6 (by decide) (hts (.fieldLink RX7 122 "TallyLogsModel$Log" "caught" "I") (by decide +kernel)) (fun _ h9 => h9) rfl (by decide +kernel) rfl rfl (Nat.le_of_ble_eq_true rfl) dX7_create_136 (fun H locs hP hD hS => ?_)
          refine lv_aload_n hx hb dX7_create_139 rfl (lv_at hl 2 rfl) ?_
          refine va_get (D := (dC, dI)) (ci := 7) (v := .ref (w 1)) (C := RX7) (T := TX7) (N := 18) hx hb hts hi7 hown hK hP 0 rfl rfl 0 (by decide) (hts (.fieldLink RX7 11 "TallyLogsModel" "log" "[[LTallyLogsModel$Log;") (by decide +kernel)) (fun _ h9 => h9) rfl dX7_create_140 ?_
          refine lv_iload_n hx hb dX7_create_143 rfl (lv_at hl 3 rfl) ?_
          refine xg_aldg hx hb hK hP 16 2 rfl rfl (by unfold vp_in; decide) dX7_create_144 ?_
          refine W.eq (g2 := F0 m 145 ls [.ref (u 3)]) rfl ?_
          refine lv_iload hx hb dX7_create_145 (lv_at hl 0 rfl) ?_
          refine va_aldq hx hb hK hP 20 3 rfl rfl (by unfold vp_in; decide) dX7_create_147 ?_
          refine W.eq (g2 := F0 m 148 ls [.ref (u 19)]) rfl ?_
          refine lv_iconst (v := 0) hx hb dX7_create_148 (by decide) ?_
          refine va_put (D := (dC, dI)) (ci := 6) (v := .int 0) (ty := .int) (C := RX6) (T := TX6) (N := 7) hx hb hts hi6 tyX6 tyX6_ok nmX6 hown hK hP hD hS 36 rfl rfl 5 (by decide) (hts (.fieldLink RX7 92 "TallyLogsModel$Log" "known" "I") (by decide +kernel)) (fun _ h9 => h9) rfl (by decide +kernel) rfl rfl (Nat.le_of_ble_eq_true rfl) dX7_create_149 (fun H locs hP hD hS => ?_)
          refine lv_iinc (v := 1) (lv' := [(5, .int 1), (4, .int v555), (0, .ref (w 0)), (1, .int 3), (2, .int xr), (3, .int xm)]) hx hb dX7_create_152 hl (k := 0) rfl (by decide) (by decide) rfl (fun ls hl => ?_)
          refine lv_goto (tgt := 117) hx hb dX7_create_155 (by decide) ?_
          refine lv_iload hx hb dX7_create_117 (lv_at hl 0 rfl) ?_
          refine lv_iconst (v := 5) hx hb dX7_create_119 (by decide) ?_
          refine lv_icmp_ge (tgt := 158) hx hb dX7_create_120 (by decide) (fun c592 => ?_) (fun c592 => ?_)
          · exact absurd c592 (by decide)
          refine lv_aload_n hx hb dX7_create_123 rfl (lv_at hl 2 rfl) ?_
          refine va_get (D := (dC, dI)) (ci := 7) (v := .ref (w 1)) (C := RX7) (T := TX7) (N := 18) hx hb hts hi7 hown hK hP 0 rfl rfl 0 (by decide) (hts (.fieldLink RX7 11 "TallyLogsModel" "log" "[[LTallyLogsModel$Log;") (by decide +kernel)) (fun _ h9 => h9) rfl dX7_create_124 ?_
          refine lv_iload_n hx hb dX7_create_127 rfl (lv_at hl 3 rfl) ?_
          refine xg_aldg hx hb hK hP 16 2 rfl rfl (by unfold vp_in; decide) dX7_create_128 ?_
          refine W.eq (g2 := F0 m 129 ls [.ref (u 3)]) rfl ?_
          refine lv_iload hx hb dX7_create_129 (lv_at hl 0 rfl) ?_
          refine va_aldq hx hb hK hP 20 3 rfl rfl (by unfold vp_in; decide) dX7_create_131 ?_
          refine W.eq (g2 := F0 m 132 ls [.ref (u 20)]) rfl ?_
          refine lv_aload_n hx hb dX7_create_132 rfl (lv_at hl 2 rfl) ?_
          refine va_get (D := (dC, dI)) (ci := 7) (v := .int 0) (C := RX7) (T := TX7) (N := 18) hx hb hts hi7 hown hK hP 0 rfl rfl 17 (by decide) (hts (.fieldLink RX7 119 "TallyLogsModel" "now" "I") (by decide +kernel)) (fun _ h9 => h9) rfl dX7_create_133 ?_
          refine va_put (D := (dC, dI)) (ci := 6) (v := .int 0) (ty := .int) (C := RX6) (T := TX6) (N := 7) hx hb hts hi6 tyX6 tyX6_ok nmX6 hown hK hP hD hS 37 rfl rfl 6 (by decide) (hts (.fieldLink RX7 122 "TallyLogsModel$Log" "caught" "I") (by decide +kernel)) (fun _ h9 => h9) rfl (by decide +kernel) rfl rfl (Nat.le_of_ble_eq_true rfl) dX7_create_136 (fun H locs hP hD hS => ?_)
          refine lv_aload_n hx hb dX7_create_139 rfl (lv_at hl 2 rfl) ?_
          refine va_get (D := (dC, dI)) (ci := 7) (v := .ref (w 1)) (C := RX7) (T := TX7) (N := 18) hx hb hts hi7 hown hK hP 0 rfl rfl 0 (by decide) (hts (.fieldLink RX7 11 "TallyLogsModel" "log" "[[LTallyLogsModel$Log;") (by decide +kernel)) (fun _ h9 => h9) rfl dX7_create_140 ?_
          refine lv_iload_n hx hb dX7_create_143 rfl (lv_at hl 3 rfl) ?_
          refine xg_aldg hx hb hK hP 16 2 rfl rfl (by unfold vp_in; decide) dX7_create_144 ?_
          refine W.eq (g2 := F0 m 145 ls [.ref (u 3)]) rfl ?_
          refine lv_iload hx hb dX7_create_145 (lv_at hl 0 rfl) ?_
          refine va_aldq hx hb hK hP 20 3 rfl rfl (by unfold vp_in; decide) dX7_create_147 ?_
          refine W.eq (g2 := F0 m 148 ls [.ref (u 20)]) rfl ?_
          refine lv_iconst (v := 0) hx hb dX7_create_148 (by decide) ?_
          refine va_put (D := (dC, dI)) (ci := 6) (v := .int 0) (ty := .int) (C := RX6) (T := TX6) (N := 7) hx hb hts hi6 tyX6 tyX6_ok nmX6 hown hK hP hD hS 37 rfl rfl 5 (by decide) (hts (.fieldLink RX7 92 "TallyLogsModel$Log" "known" "I") (by decide +kernel)) (fun _ h9 => h9) rfl (by decide +kernel) rfl rfl (Nat.le_of_ble_eq_true rfl) dX7_create_149 (fun H locs hP hD hS => ?_)
          refine lv_iinc (v := 2) (lv' := [(5, .int 2), (4, .int v555), (0, .ref (w 0)), (1, .int 3), (2, .int xr), (3, .int xm)]) hx hb dX7_create_152 hl (k := 0) rfl (by decide) (by decide) rfl (fun ls hl => ?_)
          refine lv_goto (tgt := 117) hx hb dX7_create_155 (by decide) ?_
          refine lv_iload hx hb dX7_create_117 (lv_at hl 0 rfl) ?_
          refine lv_iconst (v := 5) hx hb dX7_create_119 (by decide) ?_
          refine lv_icmp_ge (tgt := 158) hx hb dX7_create_120 (by decide) (fun c593 => ?_) (fun c593 => ?_)
          · exact absurd c593 (by decide)
          refine lv_aload_n hx hb dX7_create_123 rfl (lv_at hl 2 rfl) ?_
          refine va_get (D := (dC, dI)) (ci := 7) (v := .ref (w 1)) (C := RX7) (T := TX7) (N := 18) hx hb hts hi7 hown hK hP 0 rfl rfl 0 (by decide) (hts (.fieldLink RX7 11 "TallyLogsModel" "log" "[[LTallyLogsModel$Log;") (by decide +kernel)) (fun _ h9 => h9) rfl dX7_create_124 ?_
          refine lv_iload_n hx hb dX7_create_127 rfl (lv_at hl 3 rfl) ?_
          refine xg_aldg hx hb hK hP 16 2 rfl rfl (by unfold vp_in; decide) dX7_create_128 ?_
          refine W.eq (g2 := F0 m 129 ls [.ref (u 3)]) rfl ?_
          refine lv_iload hx hb dX7_create_129 (lv_at hl 0 rfl) ?_
          refine va_aldq hx hb hK hP 20 3 rfl rfl (by unfold vp_in; decide) dX7_create_131 ?_
          refine W.eq (g2 := F0 m 132 ls [.ref (u 21)]) rfl ?_
          refine lv_aload_n hx hb dX7_create_132 rfl (lv_at hl 2 rfl) ?_
          refine va_get (D := (dC, dI)) (ci := 7) (v := .int 0) (C := RX7) (T := TX7) (N := 18) hx hb hts hi7 hown hK hP 0 rfl rfl 17 (by decide) (hts (.fieldLink RX7 119 "TallyLogsModel" "now" "I") (by decide +kernel)) (fun _ h9 => h9) rfl dX7_create_133 ?_
          refine va_put (D := (dC, dI)) (ci := 6) (v := .int 0) (ty := .int) (C := RX6) (T := TX6) (N := 7) hx hb hts hi6 tyX6 tyX6_ok nmX6 hown hK hP hD hS 38 rfl rfl 6 (by decide) (hts (.fieldLink RX7 122 "TallyLogsModel$Log" "caught" "I") (by decide +kernel)) (fun _ h9 => h9) rfl (by decide +kernel) rfl rfl (Nat.le_of_ble_eq_true rfl) dX7_create_136 (fun H locs hP hD hS => ?_)
          refine lv_aload_n hx hb dX7_create_139 rfl (lv_at hl 2 rfl) ?_
          refine va_get (D := (dC, dI)) (ci := 7) (v := .ref (w 1)) (C := RX7) (T := TX7) (N := 18) hx hb hts hi7 hown hK hP 0 rfl rfl 0 (by decide) (hts (.fieldLink RX7 11 "TallyLogsModel" "log" "[[LTallyLogsModel$Log;") (by decide +kernel)) (fun _ h9 => h9) rfl dX7_create_140 ?_
          refine lv_iload_n hx hb dX7_create_143 rfl (lv_at hl 3 rfl) ?_
          refine xg_aldg hx hb hK hP 16 2 rfl rfl (by unfold vp_in; decide) dX7_create_144 ?_
          refine W.eq (g2 := F0 m 145 ls [.ref (u 3)]) rfl ?_
          refine lv_iload hx hb dX7_create_145 (lv_at hl 0 rfl) ?_
          refine va_aldq hx hb hK hP 20 3 rfl rfl (by unfold vp_in; decide) dX7_create_147 ?_
          refine W.eq (g2 := F0 m 148 ls [.ref (u 21)]) rfl ?_
          refine lv_iconst (v := 0) hx hb dX7_create_148 (by decide) ?_
          refine va_put (D := (dC, dI)) (ci := 6) (v := .int 0) (ty := .int) (C := RX6) (T := TX6) (N := 7) hx hb hts hi6 tyX6 tyX6_ok nmX6 hown hK hP hD hS 38 rfl rfl 5 (by decide) (hts (.fieldLink RX7 92 "TallyLogsModel$Log" "known" "I") (by decide +kernel)) (fun _ h9 => h9) rfl (by decide +kernel) rfl rfl (Nat.le_of_ble_eq_true rfl) dX7_create_149 (fun H locs hP hD hS => ?_)
          refine lv_iinc (v := 3) (lv' := [(5, .int 3), (4, .int v555), (0, .ref (w 0)), (1, .int 3), (2, .int xr), (3, .int xm)]) hx hb dX7_create_152 hl (k := 0) rfl (by decide) (by decide) rfl (fun ls hl => ?_)
          refine lv_goto (tgt := 117) hx hb dX7_create_155 (by decide) ?_
          refine lv_iload hx hb dX7_create_117 (lv_at hl 0 rfl) ?_
          refine lv_iconst (v := 5) hx hb dX7_create_119 (by decide) ?_
          refine lv_icmp_ge (tgt := 158) hx hb dX7_create_120 (by decide) (fun c594 => ?_) (fun c594 => ?_)
          · exact absurd c594 (by decide)
          refine lv_aload_n hx hb dX7_create_123 rfl (lv_at hl 2 rfl) ?_
          refine va_get (D := (dC, dI)) (ci := 7) (v := .ref (w 1)) (C := RX7) (T := TX7) (N := 18) hx hb hts hi7 hown hK hP 0 rfl rfl 0 (by decide) (hts (.fieldLink RX7 11 "TallyLogsModel" "log" "[[LTallyLogsModel$Log;") (by decide +kernel)) (fun _ h9 => h9) rfl dX7_create_124 ?_
          refine lv_iload_n hx hb dX7_create_127 rfl (lv_at hl 3 rfl) ?_
          refine xg_aldg hx hb hK hP 16 2 rfl rfl (by unfold vp_in; decide) dX7_create_128 ?_
          refine W.eq (g2 := F0 m 129 ls [.ref (u 3)]) rfl ?_
          refine lv_iload hx hb dX7_create_129 (lv_at hl 0 rfl) ?_
          refine va_aldq hx hb hK hP 20 3 rfl rfl (by unfold vp_in; decide) dX7_create_131 ?_
          refine W.eq (g2 := F0 m 132 ls [.ref (u 22)]) rfl ?_
          refine lv_aload_n hx hb dX7_create_132 rfl (lv_at hl 2 rfl) ?_
          refine va_get (D := (dC, dI)) (ci := 7) (v := .int 0) (C := RX7) (T := TX7) (N := 18) hx hb hts hi7 hown hK hP 0 rfl rfl 17 (by decide) (hts (.fieldLink RX7 119 "TallyLogsModel" "now" "I") (by decide +kernel)) (fun _ h9 => h9) rfl dX7_create_133 ?_
          refine va_put (D := (dC, dI)) (ci := 6) (v := .int 0) (ty := .int) (C := RX6) (T := TX6) (N := 7) hx hb hts hi6 tyX6 tyX6_ok nmX6 hown hK hP hD hS 39 rfl rfl 6 (by decide) (hts (.fieldLink RX7 122 "TallyLogsModel$Log" "caught" "I") (by decide +kernel)) (fun _ h9 => h9) rfl (by decide +kernel) rfl rfl (Nat.le_of_ble_eq_true rfl) dX7_create_136 (fun H locs hP hD hS => ?_)
          refine lv_aload_n hx hb dX7_create_139 rfl (lv_at hl 2 rfl) ?_
          refine va_get (D := (dC, dI)) (ci := 7) (v := .ref (w 1)) (C := RX7) (T := TX7) (N := 18) hx hb hts hi7 hown hK hP 0 rfl rfl 0 (by decide) (hts (.fieldLink RX7 11 "TallyLogsModel" "log" "[[LTallyLogsModel$Log;") (by decide +kernel)) (fun _ h9 => h9) rfl dX7_create_140 ?_
          refine lv_iload_n hx hb dX7_create_143 rfl (lv_at hl 3 rfl) ?_
          refine xg_aldg hx hb hK hP 16 2 rfl rfl (by unfold vp_in; decide) dX7_create_144 ?_
          refine W.eq (g2 := F0 m 145 ls [.ref (u 3)]) rfl ?_
          refine lv_iload hx hb dX7_create_145 (lv_at hl 0 rfl) ?_
          refine va_aldq hx hb hK hP 20 3 rfl rfl (by unfold vp_in; decide) dX7_create_147 ?_
          refine W.eq (g2 := F0 m 148 ls [.ref (u 22)]) rfl ?_
          refine lv_iconst (v := 0) hx hb dX7_create_148 (by decide) ?_
          refine va_put (D := (dC, dI)) (ci := 6) (v := .int 0) (ty := .int) (C := RX6) (T := TX6) (N := 7) hx hb hts hi6 tyX6 tyX6_ok nmX6 hown hK hP hD hS 39 rfl rfl 5 (by decide) (hts (.fieldLink RX7 92 "TallyLogsModel$Log" "known" "I") (by decide +kernel)) (fun _ h9 => h9) rfl (by decide +kernel) rfl rfl (Nat.le_of_ble_eq_true rfl) dX7_create_149 (fun H locs hP hD hS => ?_)
          refine lv_iinc (v := 4) (lv' := [(5, .int 4), (4, .int v555), (0, .ref (w 0)), (1, .int 3), (2, .int xr), (3, .int xm)]) hx hb dX7_create_152 hl (k := 0) rfl (by decide) (by decide) rfl (fun ls hl => ?_)
          refine lv_goto (tgt := 117) hx hb dX7_create_155 (by decide) ?_
          refine lv_iload hx hb dX7_create_117 (lv_at hl 0 rfl) ?_
          refine lv_iconst (v := 5) hx hb dX7_create_119 (by decide) ?_
          refine lv_icmp_ge (tgt := 158) hx hb dX7_create_120 (by decide) (fun c595 => ?_) (fun c595 => ?_)
          · exact absurd c595 (by decide)
          refine lv_aload_n hx hb dX7_create_123 rfl (lv_at hl 2 rfl) ?_
          refine va_get (D := (dC, dI)) (ci := 7) (v := .ref (w 1)) (C := RX7) (T := TX7) (N := 18) hx hb hts hi7 hown hK hP 0 rfl rfl 0 (by decide) (hts (.fieldLink RX7 11 "TallyLogsModel" "log" "[[LTallyLogsModel$Log;") (by decide +kernel)) (fun _ h9 => h9) rfl dX7_create_124 ?_
          refine lv_iload_n hx hb dX7_create_127 rfl (lv_at hl 3 rfl) ?_
          refine xg_aldg hx hb hK hP 16 2 rfl rfl (by unfold vp_in; decide) dX7_create_128 ?_
          refine W.eq (g2 := F0 m 129 ls [.ref (u 3)]) rfl ?_
          refine lv_iload hx hb dX7_create_129 (lv_at hl 0 rfl) ?_
          refine va_aldq hx hb hK hP 20 3 rfl rfl (by unfold vp_in; decide) dX7_create_131 ?_
          refine W.eq (g2 := F0 m 132 ls [.ref (u 23)]) rfl ?_
          refine lv_aload_n hx hb dX7_create_132 rfl (lv_at hl 2 rfl) ?_
          refine va_get (D := (dC, dI)) (ci := 7) (v := .int 0) (C := RX7) (T := TX7) (N := 18) hx hb hts hi7 hown hK hP 0 rfl rfl 17 (by decide) (hts (.fieldLink RX7 119 "TallyLogsModel" "now" "I") (by decide +kernel)) (fun _ h9 => h9) rfl dX7_create_133 ?_
          refine va_put (D := (dC, dI)) (ci := 6) (v := .int 0) (ty := .int) (C := RX6) (T := TX6) (N := 7) hx hb hts hi6 tyX6 tyX6_ok nmX6 hown hK hP hD hS 40 rfl rfl 6 (by decide) (hts (.fieldLink RX7 122 "TallyLogsModel$Log" "caught" "I") (by decide +kernel)) (fun _ h9 => h9) rfl (by decide +kernel) rfl rfl (Nat.le_of_ble_eq_true rfl) dX7_create_136 (fun H locs hP hD hS => ?_)
          refine lv_aload_n hx hb dX7_create_139 rfl (lv_at hl 2 rfl) ?_
          refine va_get (D := (dC, dI)) (ci := 7) (v := .ref (w 1)) (C := RX7) (T := TX7) (N := 18) hx hb hts hi7 hown hK hP 0 rfl rfl 0 (by decide) (hts (.fieldLink RX7 11 "TallyLogsModel" "log" "[[LTallyLogsModel$Log;") (by decide +kernel)) (fun _ h9 => h9) rfl dX7_create_140 ?_
          refine lv_iload_n hx hb dX7_create_143 rfl (lv_at hl 3 rfl) ?_
          refine xg_aldg hx hb hK hP 16 2 rfl rfl (by unfold vp_in; decide) dX7_create_144 ?_
          refine W.eq (g2 := F0 m 145 ls [.ref (u 3)]) rfl ?_
          refine lv_iload hx hb dX7_create_145 (lv_at hl 0 rfl) ?_
          refine va_aldq hx hb hK hP 20 3 rfl rfl (by unfold vp_in; decide) dX7_create_147 ?_
          refine W.eq (g2 := F0 m 148 ls [.ref (u 23)]) rfl ?_
          refine lv_iconst (v := 0) hx hb dX7_create_148 (by decide) ?_
          refine va_put (D := (dC, dI)) (ci := 6) (v := .int 0) (ty := .int) (C := RX6) (T := TX6) (N := 7) hx hb hts hi6 tyX6 tyX6_ok nmX6 hown hK hP hD hS 40 rfl rfl 5 (by decide) (hts (.fieldLink RX7 92 "TallyLogsModel$Log" "known" "I") (by decide +kernel)) (fun _ h9 => h9) rfl (by decide +kernel) rfl rfl (Nat.le_of_ble_eq_true rfl) dX7_create_149 (fun H locs hP hD hS => ?_)
          refine lv_iinc (v := 5) (lv' := [(5, .int 5), (4, .int v555), (0, .ref (w 0)), (1, .int 3), (2, .int xr), (3, .int xm)]) hx hb dX7_create_152 hl (k := 0) rfl (by decide) (by decide) rfl (fun ls hl => ?_)
          refine lv_goto (tgt := 117) hx hb dX7_create_155 (by decide) ?_
          refine lv_iload hx hb dX7_create_117 (lv_at hl 0 rfl) ?_
          refine lv_iconst (v := 5) hx hb dX7_create_119 (by decide) ?_
          refine lv_icmp_ge (tgt := 158) hx hb dX7_create_120 (by decide) (fun c596 => ?_) (fun c596 => ?_)
          rotate_left
          · exact absurd c596 (by decide)
          refine lv_aload_n hx hb dX7_create_158 rfl (lv_at hl 2 rfl) ?_
          refine va_get (D := (dC, dI)) (ci := 7) (v := .ref (w 4)) (C := RX7) (T := TX7) (N := 18) hx hb hts hi7 hown hK hP 0 rfl rfl 3 (by decide) (hts (.fieldLink RX7 22 "TallyLogsModel" "leader" "[I") (by decide +kernel)) (fun _ h9 => h9) rfl dX7_create_159 ?_
          refine lv_iload_n hx hb dX7_create_162 rfl (lv_at hl 3 rfl) ?_
          refine va_iald hx hb hK hP 3 1 rfl rfl (by unfold vp_in; decide) dX7_create_163 ?_
          refine W.eq (g2 := F0 m 164 ls [.int (sp_nz v589)]) (by rw [pk_us]) ?_
          exact W.iret (v := (sp_nz v589)) hx hb hr (fun t ht hW => ⟨⟨(sp_nz v589), (), rfl, by show _ = _; subst ev555; subst ev563; subst ev589; have kc557 := (not_congr (sp_in_0 (3 : Int32) 0 3)).mp c557; have kc562 := (not_congr (sp_in_0 xm 1 ((sp_bc v555).toInt64))).mp c562; simp only [xk_eq, Int32.toInt_toInt64, xk_lt, xk_le, xk_0, xk_1, xk_2, xk_3, xk_4, xk_5, xk_6, xk_7, xk_8, xk_50, xl_0, xl_1, xl_3, xl_4, xl_5, xl_6, xl_7, xl_50] at kc557 kc562; unfold sp_ce; rw [if_neg (by first | decide | (simp only [xk_0, xk_1, xk_2, xk_3]; omega)), if_neg (by omega), if_neg c564]; exact sp_lz _ c564, trivial⟩, hS.F ht⟩) hS.2.2 dX7_create_164
      · refine lv_bipush (v := (-2)) hx hb dX7_create_54 (by decide) ?_
        exact W.iret (v := (-2)) hx hb hr (fun t ht hW => ⟨⟨(-2), (), rfl, by show _ = _; subst ev555; subst ev563; have kc557 := (not_congr (sp_in_0 xp 0 3)).mp c557; have kc562 := (not_congr (sp_in_0 xm 1 ((sp_bc v555).toInt64))).mp c562; simp only [xk_eq, Int32.toInt_toInt64, xk_lt, xk_le, xk_0, xk_1, xk_2, xk_3, xk_4, xk_5, xk_6, xk_7, xk_8, xk_50, xl_0, xl_1, xl_3, xl_4, xl_5, xl_6, xl_7, xl_50] at kc557 kc562; unfold sp_ce; (repeat' split); all_goals first | rfl | omega | (exfalso; omega) | contradiction, trivial⟩, hS.F ht⟩) hS.2.2 dX7_create_56
    · refine lv_iconst (v := (-1)) hx hb dX7_create_42 (by decide) ?_
      exact W.iret (v := (-1)) hx hb hr (fun t ht hW => ⟨⟨(-1), (), rfl, by show _ = _; subst ev555; have kc557 := (not_congr (sp_in_0 xp 0 3)).mp c557; have kc562 := (sp_in_0 xm 1 ((sp_bc v555).toInt64)).mp c562; simp only [xk_eq, Int32.toInt_toInt64, xk_lt, xk_le, xk_0, xk_1, xk_2, xk_3, xk_4, xk_5, xk_6, xk_7, xk_8, xk_50, xl_0, xl_1, xl_3, xl_4, xl_5, xl_6, xl_7, xl_50] at kc557 kc562; unfold sp_ce; (repeat' split); all_goals first | rfl | omega | (exfalso; omega) | contradiction, trivial⟩, hS.F ht⟩) hS.2.2 dX7_create_43
