theorem sp_it0 {f : Nat → Int32} {x : Int32} (h : sp_it f x = 0) : ¬ (0 ≤ x.toInt ∧ x.toInt < 4 ∧ ¬ f x.toNatClampNeg = 0) := fun q => by
  unfold sp_it at h
  rw [if_pos q] at h
  exact absurd h (by decide)
theorem zN_0 {x : Int32} : zN x = 0 ↔ x = 0 := by
  unfold zN
  by_cases h : x = 0
  · rw [if_pos h]; exact ⟨fun _ => h, fun _ => rfl⟩
  · rw [if_neg h]; exact ⟨fun q => absurd q (by decide), fun q => absurd q h⟩
theorem nI_nm1 : ∀ k, k < 8 → ¬ nI k = (-1 : Int32) := by decide +kernel
theorem sp_ow1_k {k : Nat} (h : k < 8) : sp_ow1 (nI k) = nI k := by unfold sp_ow1; rw [if_neg (nI_nm1 k h)]
theorem xiff0 {x : Int32} (h : x &&& 1 = 0) : ¬ x &&& 1 = 1 := by rw [h]; decide
set_option maxHeartbeats 4000000 in
set_option maxRecDepth 100000 in
/-- register, exactly -/
theorem e_X7_register (l : Launch) (dC : Nat → ClassId) (dI : Nat → Nat → Nat) (cy : Nat → ClassId) (w : Nat → Nat) (L : List Nat) (K N : Nat → Nat) (T : Nat → Nat → Nat) (Q : Nat → Nat → Option Nat) (I J : Nat → Nat → Int32) (sz : Nat) (E : Int) (xk : Int32) (hM : MS w L K N T Q) (hI : MI w E I J) (hE : E ≤ 1000) : Met l yX7_register wsX7_register ({ frames := 1, cells := 0, slots := 0, locals := 27 }) (va_Pc [.ref (w 0), .int xk] (mW dC dI cy L (wF cy K N T I Q J) sz)) (va_Qi (fun (r : Int32) (d : (Nat → Nat → Int32) × (Nat → Nat → Int32)) => MI w (E + 5) d.1 d.2 ∧ RM w [] I (sp_rgJ w J xk) d.1 d.2 ∧ r = sp_rgr (J (w 8) xk.toNatClampNeg) xk) (fun (d : (Nat → Nat → Int32) × (Nat → Nat → Int32)) t => va_P (dC, dI) vwCl (va_pl L (wF cy K N T d.1 Q d.2)) t.heap ∧ va_K (dC, dI) vwCl (mTy cy) t ∧ va_D (va_A (va_pl L (wF cy K N T I Q J)) sz) (va_pl L (wF cy K N T d.1 Q d.2))) (va_A (va_pl L (wF cy K N T I Q J)) sz)) 0 0 (va_A (va_pl L (wF cy K N T I Q J)) sz) := by
  refine Met.ofW (cc := cX7_register) (maxL := 2) (ret := (some .int)) (by decide) rfl ?_
  intro p e s m args below meth c s₁ B hml hv
  obtain ⟨rfl, hsz, ⟨hP, hK⟩, hD0⟩ := hv
  have hx := B.exec
  have hb := B.bytes
  have hr := B.returns
  have hts := atoms_spec (ws := wsX7_register) B.pre
  have hown : s.vm.findClass RX7 = some m.cls := findClass_of_methodNamed B.named
  have hlocks := B.notSynchronized
  have hi7 : ∀ w ∈ wsX70, w ∈ wsX7_register := by decide +kernel
  have hl := lv_entry ([.ref (w 0), .int xk]) (n := 2) (Nat.le_of_ble_eq_true rfl)
  rw [lg_entry_eq]
  generalize (lg_sl ([.ref (w 0), .int xk]) ++ List.replicate (2 - (lg_sl ([.ref (w 0), .int xk])).length) Slot.unset).toArray = ls at hl ⊢
  have hl : lv_has ls 2 [(0, .ref (w 0)), (1, .int xk)] := hl
  subst hsz
  have hD := hD0.self (sz := s.heap.size)
  generalize hAe : va_A (va_pl L (wF cy K N T I Q J)) s.heap.size = A at hD ⊢
  have hA : ∀ q : Nat, s.heap.size ≤ q → A q := fun q h => by rw [← hAe]; exact Or.inr h
  have hS : va_S A s.heap s.heap [] := va_S.rf
  have hR : RM w [8] I J I J := RM.rf
  obtain ⟨hML, hMD, hMU⟩ := hI
  refine lv_iload_n hx hb dX7_register_0 rfl (lv_at hl 1 rfl) ?_
  refine lv_i2l (v := xk.toInt64) hx hb dX7_register_1 rfl ?_
  refine lv_lconst (v := 0) hx hb dX7_register_2 (by decide) ?_
  refine lv_ldc2 hx hb hown (hts (.constantLong RX7 129 5) (by decide +kernel)) dX7_register_3 ?_
  refine vp_callSi (W.runS (As := [.long xk.toInt64, .long 0, .long 5]) (rest := []) ⟨hx, hb, hml, hown, hts⟩ (c_X7_in l xk.toInt64 0 5) (va_cwS 3 hts gX7_register_X7_in rfl rfl rfl (by decide +kernel) ⟨Nat.le_of_ble_eq_true rfl, Nat.le_of_ble_eq_true rfl⟩) preEq rfl rfl hl.1 rfl (lv_room (Nat.le_of_ble_eq_true rfl)) dX7_register_6 ⟨Nat.le_of_ble_eq_true rfl, Nat.le_of_ble_eq_true rfl⟩) (fun r200001 hr200001 => ?_)
  subst hr200001
  refine lv_if_ne (tgt := 14) hx hb dX7_register_9 (by decide) (fun c200002 => ?_) (fun c200002 => ?_)
  · have hin200003 : vp_in xk 6 := xin_sp c200002 (by decide)
    refine lv_aload_n hx hb dX7_register_14 rfl (lv_at hl 0 rfl) ?_
    obtain ⟨j200004, hj200004⟩ := wG_7 (cy := cy) (N := N) (T := T) (I := I) (Q := Q) (J := J) (hM.at 0 (by decide)) (hM.k 0 (by decide) rfl)
    refine va_get (D := (dC, dI)) (ci := 7) (v := .ref (T (w 0) 8)) (C := RX7) (T := TX7) (N := 18) hx hb hts hi7 hown hK hP j200004 hj200004 rfl 8 (by decide) (hts (.fieldLink RX7 37 "TallyLogsModel" "mode" "[I") (by decide +kernel)) (fun _ h9 => h9) rfl dX7_register_15 ?_
    refine W.eq (g2 := F0 m 18 ls [.ref (w 9)]) (by rw [hM.t 8 (by decide)]) ?_
    refine lv_iload_n hx hb dX7_register_18 rfl (lv_at hl 1 rfl) ?_
    obtain ⟨j200005, hj200005⟩ := wG_20 (cy := cy) (N := N) (T := T) (I := I) (Q := Q) (J := J) (hM.at 9 (by decide)) (hM.k 9 (by decide) rfl)
    refine va_iald hx hb hK hP j200005 1 hj200005 rfl (hM.inN (n := 6) 9 (by decide) rfl rfl hin200003) dX7_register_19 ?_
    refine lv_topi (fun x200006 ex200006 => ?_)
    refine lv_iconst (v := 1) hx hb dX7_register_20 (by decide) ?_
    refine lv_icmp_ne (tgt := 50) hx hb dX7_register_21 (by decide) (fun c200007 => ?_) (fun c200007 => ?_)
    · have kc200007 : ¬ (x200006.toInt = 1) := by have h9 := c200007; rw [xk_eq, xk_1] at h9; exact h9
      refine lv_aload_n hx hb dX7_register_50 rfl (lv_at hl 0 rfl) ?_
      obtain ⟨j200008, hj200008⟩ := wG_7 (cy := cy) (N := N) (T := T) (I := I) (Q := Q) (J := J) (hM.at 0 (by decide)) (hM.k 0 (by decide) rfl)
      refine va_get (D := (dC, dI)) (ci := 7) (v := .ref (T (w 0) 7)) (C := RX7) (T := TX7) (N := 18) hx hb hts hi7 hown hK hP j200008 hj200008 rfl 7 (by decide) (hts (.fieldLink RX7 34 "TallyLogsModel" "generation" "[I") (by decide +kernel)) (fun _ h9 => h9) rfl dX7_register_51 ?_
      refine W.eq (g2 := F0 m 54 ls [.ref (w 8)]) (by rw [hM.t 7 (by decide)]) ?_
      refine lv_iload_n hx hb dX7_register_54 rfl (lv_at hl 1 rfl) ?_
      refine lv_dup2_11 hx hb dX7_register_55 rfl rfl ?_
      obtain ⟨j200009, hj200009⟩ := wG_20 (cy := cy) (N := N) (T := T) (I := I) (Q := Q) (J := J) (hM.at 8 (by decide)) (hM.k 8 (by decide) rfl)
      refine va_iald hx hb hK hP j200009 1 hj200009 rfl (hM.inN (n := 6) 8 (by decide) rfl rfl hin200003) dX7_register_56 ?_
      refine lv_topi (fun x200010 ex200010 => ?_)
      refine lv_iconst (v := 1) hx hb dX7_register_57 (by decide) ?_
      refine lv_iadd hx hb dX7_register_58 ?_
      refine lv_topi (fun v200011 ev200011 => ?_)
      obtain ⟨j200012, hj200012⟩ := wG_20 (cy := cy) (N := N) (T := T) (I := I) (Q := Q) (J := J) (hM.at 8 (by decide)) (hM.k 8 (by decide) rfl)
      have hDo := hD
      refine va_iast (x := v200011) hx hb hK hP hD hS j200012 1 hj200012 rfl (hM.inN (n := 6) 8 (by decide) rfl rfl hin200003) dX7_register_59 (fun H locs hP hD hS => ?_)
      have hP := Eq.mp (congrArg (fun w => va_P (dC, dI) vwCl w H) (wS_20 hDo (hM.at 8 (by decide)) (hM.k 8 (by decide) rfl) hj200012)) hP
      obtain ⟨J200013, eJ200013⟩ : ∃ z, z = va_up J (w 8) (upd (J (w 8)) xk.toNatClampNeg v200011) := ⟨_, rfl⟩
      rw [← eJ200013] at hP
      have hR : RM w [8] I J I J200013 := by rw [eJ200013]; exact hR.pj hM (by decide) (by decide)
      have hMD : MD w J200013 := by rw [eJ200013]; exact hMD.pj hM (by decide) (by decide)
      have hD : va_D A (va_pl L (wF cy K N T I Q J200013)) := pD hDo
      refine lv_bipush (v := 8) hx hb dX7_register_60 (by decide) ?_
      refine lv_aload_n hx hb dX7_register_62 rfl (lv_at hl 0 rfl) ?_
      obtain ⟨j200014, hj200014⟩ := wG_7 (cy := cy) (N := N) (T := T) (I := I) (Q := Q) (J := J200013) (hM.at 0 (by decide)) (hM.k 0 (by decide) rfl)
      refine va_get (D := (dC, dI)) (ci := 7) (v := .ref (T (w 0) 7)) (C := RX7) (T := TX7) (N := 18) hx hb hts hi7 hown hK hP j200014 hj200014 rfl 7 (by decide) (hts (.fieldLink RX7 34 "TallyLogsModel" "generation" "[I") (by decide +kernel)) (fun _ h9 => h9) rfl dX7_register_63 ?_
      refine W.eq (g2 := F0 m 66 ls [.ref (w 8), .int 8]) (by rw [hM.t 7 (by decide)]) ?_
      refine lv_iload_n hx hb dX7_register_66 rfl (lv_at hl 1 rfl) ?_
      obtain ⟨j200015, hj200015⟩ := wG_20 (cy := cy) (N := N) (T := T) (I := I) (Q := Q) (J := J200013) (hM.at 8 (by decide)) (hM.k 8 (by decide) rfl)
      refine va_iald hx hb hK hP j200015 1 hj200015 rfl (hM.inN (n := 6) 8 (by decide) rfl rfl hin200003) dX7_register_67 ?_
      refine lv_topi (fun x200016 ex200016 => ?_)
      refine lv_imul hx hb dX7_register_68 ?_
      refine lv_topi (fun v200017 ev200017 => ?_)
      refine lv_iload_n hx hb dX7_register_69 rfl (lv_at hl 1 rfl) ?_
      refine lv_iadd hx hb dX7_register_70 ?_
      refine lv_topi (fun v200018 ev200018 => ?_)
      exact W.iret (v := v200018) hx hb hr (fun t ht hW => ⟨⟨v200018, (I, J200013), rfl, ⟨⟨hML.mono (by omega), hMD, hMU⟩, by have h9 := vp_in_iff.mp hin200003; rw [sp_rgJ, if_pos ⟨by omega, by omega⟩]; exact hR.re (fun k hk hx => va_up_ne _ _ (hM.ne (by omega) (by decide) (fun q => hx (List.mem_singleton.mpr q)))) (fun k hk he => by obtain rfl := List.mem_singleton.mp he; show J200013 (w 8) = _; rw [va_up_self, eJ200013, va_up_self, ev200011, ex200010]), by show _ = _; have h9 := vp_in_iff.mp hin200003; rw [sp_rgr, if_pos ⟨by omega, by omega⟩, ev200018, ev200017, ex200016, eJ200013, va_up_self, pk_us, ev200011, ex200010]⟩, by rw [ht]; exact hP, va_K.moved hW.alike hK, hD⟩, hS.F ht⟩) hS.2.2 dX7_register_71
    · have kc200007 : x200006.toInt = 1 := by have h9 := c200007; rw [xk_eq, xk_1] at h9; exact h9
      refine lv_aload_n hx hb dX7_register_24 rfl (lv_at hl 0 rfl) ?_
      obtain ⟨j200019, hj200019⟩ := wG_7 (cy := cy) (N := N) (T := T) (I := I) (Q := Q) (J := J) (hM.at 0 (by decide)) (hM.k 0 (by decide) rfl)
      refine va_get (D := (dC, dI)) (ci := 7) (v := .ref (T (w 0) 8)) (C := RX7) (T := TX7) (N := 18) hx hb hts hi7 hown hK hP j200019 hj200019 rfl 8 (by decide) (hts (.fieldLink RX7 37 "TallyLogsModel" "mode" "[I") (by decide +kernel)) (fun _ h9 => h9) rfl dX7_register_25 ?_
      refine W.eq (g2 := F0 m 28 ls [.ref (w 9)]) (by rw [hM.t 8 (by decide)]) ?_
      refine lv_iload_n hx hb dX7_register_28 rfl (lv_at hl 1 rfl) ?_
      refine lv_iconst (v := 2) hx hb dX7_register_29 (by decide) ?_
      obtain ⟨j200020, hj200020⟩ := wG_20 (cy := cy) (N := N) (T := T) (I := I) (Q := Q) (J := J) (hM.at 9 (by decide)) (hM.k 9 (by decide) rfl)
      have hDo := hD
      refine va_iast (x := 2) hx hb hK hP hD hS j200020 1 hj200020 rfl (hM.inN (n := 6) 9 (by decide) rfl rfl hin200003) dX7_register_30 (fun H locs hP hD hS => ?_)
      have hP := Eq.mp (congrArg (fun w => va_P (dC, dI) vwCl w H) (wS_20 hDo (hM.at 9 (by decide)) (hM.k 9 (by decide) rfl) hj200020)) hP
      obtain ⟨J200021, eJ200021⟩ : ∃ z, z = va_up J (w 9) (upd (J (w 9)) xk.toNatClampNeg 2) := ⟨_, rfl⟩
      rw [← eJ200021] at hP
      have hR : RM w [8] I J I J200021 := by rw [eJ200021]; exact hR.pj hM (by decide) (by decide)
      have hMD : MD w J200021 := by rw [eJ200021]; exact hMD.pj hM (by decide) (by decide)
      have hD : va_D A (va_pl L (wF cy K N T I Q J200021)) := pD hDo
      refine lv_aload_n hx hb dX7_register_31 rfl (lv_at hl 0 rfl) ?_
      obtain ⟨j200022, hj200022⟩ := wG_7 (cy := cy) (N := N) (T := T) (I := I) (Q := Q) (J := J200021) (hM.at 0 (by decide)) (hM.k 0 (by decide) rfl)
      refine va_get (D := (dC, dI)) (ci := 7) (v := .ref (T (w 0) 10)) (C := RX7) (T := TX7) (N := 18) hx hb hts hi7 hown hK hP j200022 hj200022 rfl 10 (by decide) (hts (.fieldLink RX7 43 "TallyLogsModel" "endGeneration" "[I") (by decide +kernel)) (fun _ h9 => h9) rfl dX7_register_32 ?_
      refine W.eq (g2 := F0 m 35 ls [.ref (w 11)]) (by rw [hM.t 10 (by decide)]) ?_
      refine lv_iload_n hx hb dX7_register_35 rfl (lv_at hl 1 rfl) ?_
      refine lv_aload_n hx hb dX7_register_36 rfl (lv_at hl 0 rfl) ?_
      obtain ⟨j200023, hj200023⟩ := wG_7 (cy := cy) (N := N) (T := T) (I := I) (Q := Q) (J := J200021) (hM.at 0 (by decide)) (hM.k 0 (by decide) rfl)
      refine va_get (D := (dC, dI)) (ci := 7) (v := .ref (T (w 0) 7)) (C := RX7) (T := TX7) (N := 18) hx hb hts hi7 hown hK hP j200023 hj200023 rfl 7 (by decide) (hts (.fieldLink RX7 34 "TallyLogsModel" "generation" "[I") (by decide +kernel)) (fun _ h9 => h9) rfl dX7_register_37 ?_
      refine W.eq (g2 := F0 m 40 ls [.ref (w 8), .int xk, .ref (w 11)]) (by rw [hM.t 7 (by decide)]) ?_
      refine lv_iload_n hx hb dX7_register_40 rfl (lv_at hl 1 rfl) ?_
      obtain ⟨j200024, hj200024⟩ := wG_20 (cy := cy) (N := N) (T := T) (I := I) (Q := Q) (J := J200021) (hM.at 8 (by decide)) (hM.k 8 (by decide) rfl)
      refine va_iald hx hb hK hP j200024 1 hj200024 rfl (hM.inN (n := 6) 8 (by decide) rfl rfl hin200003) dX7_register_41 ?_
      refine lv_topi (fun x200025 ex200025 => ?_)
      obtain ⟨j200026, hj200026⟩ := wG_20 (cy := cy) (N := N) (T := T) (I := I) (Q := Q) (J := J200021) (hM.at 11 (by decide)) (hM.k 11 (by decide) rfl)
      have hDo := hD
      refine va_iast (x := x200025) hx hb hK hP hD hS j200026 1 hj200026 rfl (hM.inN (n := 6) 11 (by decide) rfl rfl hin200003) dX7_register_42 (fun H locs hP hD hS => ?_)
      have hP := Eq.mp (congrArg (fun w => va_P (dC, dI) vwCl w H) (wS_20 hDo (hM.at 11 (by decide)) (hM.k 11 (by decide) rfl) hj200026)) hP
      obtain ⟨J200027, eJ200027⟩ : ∃ z, z = va_up J200021 (w 11) (upd (J200021 (w 11)) xk.toNatClampNeg x200025) := ⟨_, rfl⟩
      rw [← eJ200027] at hP
      have hR : RM w [8] I J I J200027 := by rw [eJ200027]; exact hR.pj hM (by decide) (by decide)
      have hMD : MD w J200027 := by rw [eJ200027]; exact hMD.pj hM (by decide) (by decide)
      have hD : va_D A (va_pl L (wF cy K N T I Q J200027)) := pD hDo
      refine lv_aload_n hx hb dX7_register_43 rfl (lv_at hl 0 rfl) ?_
      obtain ⟨j200028, hj200028⟩ := wG_7 (cy := cy) (N := N) (T := T) (I := I) (Q := Q) (J := J200027) (hM.at 0 (by decide)) (hM.k 0 (by decide) rfl)
      refine va_get (D := (dC, dI)) (ci := 7) (v := .ref (T (w 0) 11)) (C := RX7) (T := TX7) (N := 18) hx hb hts hi7 hown hK hP j200028 hj200028 rfl 11 (by decide) (hts (.fieldLink RX7 46 "TallyLogsModel" "endKind" "[I") (by decide +kernel)) (fun _ h9 => h9) rfl dX7_register_44 ?_
      refine W.eq (g2 := F0 m 47 ls [.ref (w 12)]) (by rw [hM.t 11 (by decide)]) ?_
      refine lv_iload_n hx hb dX7_register_47 rfl (lv_at hl 1 rfl) ?_
      refine lv_iconst (v := 2) hx hb dX7_register_48 (by decide) ?_
      obtain ⟨j200029, hj200029⟩ := wG_20 (cy := cy) (N := N) (T := T) (I := I) (Q := Q) (J := J200027) (hM.at 12 (by decide)) (hM.k 12 (by decide) rfl)
      have hDo := hD
      refine va_iast (x := 2) hx hb hK hP hD hS j200029 1 hj200029 rfl (hM.inN (n := 6) 12 (by decide) rfl rfl hin200003) dX7_register_49 (fun H locs hP hD hS => ?_)
      have hP := Eq.mp (congrArg (fun w => va_P (dC, dI) vwCl w H) (wS_20 hDo (hM.at 12 (by decide)) (hM.k 12 (by decide) rfl) hj200029)) hP
      obtain ⟨J200030, eJ200030⟩ : ∃ z, z = va_up J200027 (w 12) (upd (J200027 (w 12)) xk.toNatClampNeg 2) := ⟨_, rfl⟩
      rw [← eJ200030] at hP
      have hR : RM w [8] I J I J200030 := by rw [eJ200030]; exact hR.pj hM (by decide) (by decide)
      have hMD : MD w J200030 := by rw [eJ200030]; exact hMD.pj hM (by decide) (by decide)
      have hD : va_D A (va_pl L (wF cy K N T I Q J200030)) := pD hDo
      refine lv_aload_n hx hb dX7_register_50 rfl (lv_at hl 0 rfl) ?_
      obtain ⟨j200031, hj200031⟩ := wG_7 (cy := cy) (N := N) (T := T) (I := I) (Q := Q) (J := J200030) (hM.at 0 (by decide)) (hM.k 0 (by decide) rfl)
      refine va_get (D := (dC, dI)) (ci := 7) (v := .ref (T (w 0) 7)) (C := RX7) (T := TX7) (N := 18) hx hb hts hi7 hown hK hP j200031 hj200031 rfl 7 (by decide) (hts (.fieldLink RX7 34 "TallyLogsModel" "generation" "[I") (by decide +kernel)) (fun _ h9 => h9) rfl dX7_register_51 ?_
      refine W.eq (g2 := F0 m 54 ls [.ref (w 8)]) (by rw [hM.t 7 (by decide)]) ?_
      refine lv_iload_n hx hb dX7_register_54 rfl (lv_at hl 1 rfl) ?_
      refine lv_dup2_11 hx hb dX7_register_55 rfl rfl ?_
      obtain ⟨j200032, hj200032⟩ := wG_20 (cy := cy) (N := N) (T := T) (I := I) (Q := Q) (J := J200030) (hM.at 8 (by decide)) (hM.k 8 (by decide) rfl)
      refine va_iald hx hb hK hP j200032 1 hj200032 rfl (hM.inN (n := 6) 8 (by decide) rfl rfl hin200003) dX7_register_56 ?_
      refine lv_topi (fun x200033 ex200033 => ?_)
      refine lv_iconst (v := 1) hx hb dX7_register_57 (by decide) ?_
      refine lv_iadd hx hb dX7_register_58 ?_
      refine lv_topi (fun v200034 ev200034 => ?_)
      obtain ⟨j200035, hj200035⟩ := wG_20 (cy := cy) (N := N) (T := T) (I := I) (Q := Q) (J := J200030) (hM.at 8 (by decide)) (hM.k 8 (by decide) rfl)
      have hDo := hD
      refine va_iast (x := v200034) hx hb hK hP hD hS j200035 1 hj200035 rfl (hM.inN (n := 6) 8 (by decide) rfl rfl hin200003) dX7_register_59 (fun H locs hP hD hS => ?_)
      have hP := Eq.mp (congrArg (fun w => va_P (dC, dI) vwCl w H) (wS_20 hDo (hM.at 8 (by decide)) (hM.k 8 (by decide) rfl) hj200035)) hP
      obtain ⟨J200036, eJ200036⟩ : ∃ z, z = va_up J200030 (w 8) (upd (J200030 (w 8)) xk.toNatClampNeg v200034) := ⟨_, rfl⟩
      rw [← eJ200036] at hP
      have hR : RM w [8] I J I J200036 := by rw [eJ200036]; exact hR.pj hM (by decide) (by decide)
      have hMD : MD w J200036 := by rw [eJ200036]; exact hMD.pj hM (by decide) (by decide)
      have hD : va_D A (va_pl L (wF cy K N T I Q J200036)) := pD hDo
      refine lv_bipush (v := 8) hx hb dX7_register_60 (by decide) ?_
      refine lv_aload_n hx hb dX7_register_62 rfl (lv_at hl 0 rfl) ?_
      obtain ⟨j200037, hj200037⟩ := wG_7 (cy := cy) (N := N) (T := T) (I := I) (Q := Q) (J := J200036) (hM.at 0 (by decide)) (hM.k 0 (by decide) rfl)
      refine va_get (D := (dC, dI)) (ci := 7) (v := .ref (T (w 0) 7)) (C := RX7) (T := TX7) (N := 18) hx hb hts hi7 hown hK hP j200037 hj200037 rfl 7 (by decide) (hts (.fieldLink RX7 34 "TallyLogsModel" "generation" "[I") (by decide +kernel)) (fun _ h9 => h9) rfl dX7_register_63 ?_
      refine W.eq (g2 := F0 m 66 ls [.ref (w 8), .int 8]) (by rw [hM.t 7 (by decide)]) ?_
      refine lv_iload_n hx hb dX7_register_66 rfl (lv_at hl 1 rfl) ?_
      obtain ⟨j200038, hj200038⟩ := wG_20 (cy := cy) (N := N) (T := T) (I := I) (Q := Q) (J := J200036) (hM.at 8 (by decide)) (hM.k 8 (by decide) rfl)
      refine va_iald hx hb hK hP j200038 1 hj200038 rfl (hM.inN (n := 6) 8 (by decide) rfl rfl hin200003) dX7_register_67 ?_
      refine lv_topi (fun x200039 ex200039 => ?_)
      refine lv_imul hx hb dX7_register_68 ?_
      refine lv_topi (fun v200040 ev200040 => ?_)
      refine lv_iload_n hx hb dX7_register_69 rfl (lv_at hl 1 rfl) ?_
      refine lv_iadd hx hb dX7_register_70 ?_
      refine lv_topi (fun v200041 ev200041 => ?_)
      exact W.iret (v := v200041) hx hb hr (fun t ht hW => ⟨⟨v200041, (I, J200036), rfl, ⟨⟨hML.mono (by omega), hMD, hMU⟩, by have h9 := vp_in_iff.mp hin200003; rw [sp_rgJ, if_pos ⟨by omega, by omega⟩]; exact hR.re (fun k hk hx => va_up_ne _ _ (hM.ne (by omega) (by decide) (fun q => hx (List.mem_singleton.mpr q)))) (fun k hk he => by obtain rfl := List.mem_singleton.mp he; show J200036 (w 8) = _; rw [va_up_self, eJ200036, va_up_self, ev200034, ex200033, eJ200030, va_up_ne _ _ (hM.ne (i := 8) (j := 12) (by decide) (by decide) (by decide)), eJ200027, va_up_ne _ _ (hM.ne (i := 8) (j := 11) (by decide) (by decide) (by decide)), eJ200021, va_up_ne _ _ (hM.ne (i := 8) (j := 9) (by decide) (by decide) (by decide))]), by show _ = _; have h9 := vp_in_iff.mp hin200003; rw [sp_rgr, if_pos ⟨by omega, by omega⟩, ev200041, ev200040, ex200039, eJ200036, va_up_self, pk_us, ev200034, ex200033, eJ200030, va_up_ne _ _ (hM.ne (i := 8) (j := 12) (by decide) (by decide) (by decide)), eJ200027, va_up_ne _ _ (hM.ne (i := 8) (j := 11) (by decide) (by decide) (by decide)), eJ200021, va_up_ne _ _ (hM.ne (i := 8) (j := 9) (by decide) (by decide) (by decide))]⟩, by rw [ht]; exact hP, va_K.moved hW.alike hK, hD⟩, hS.F ht⟩) hS.2.2 dX7_register_71
  · refine lv_iconst (v := (-1)) hx hb dX7_register_12 (by decide) ?_
    exact W.iret (v := (-1)) hx hb hr (fun t ht hW => ⟨⟨(-1), (I, J), rfl, ⟨⟨hML.mono (by omega), hMD, hMU⟩, by have kc200002 := (sp_in_0 xk 0 5).mp c200002; simp only [xk_eq, Int32.toInt_toInt64, xk_lt, xk_le, xk_0, xk_1, xk_2, xk_3, xk_4, xk_5, xk_6, xk_7, xk_8, xk_50, xl_0, xl_1, xl_3, xl_4, xl_5, xl_6, xl_7, xl_50] at kc200002; rw [sp_rgJ, if_neg (fun q => by omega)]; exact hR.no (fun _ _ _ => rfl), by show _ = _; have kc200002 := (sp_in_0 xk 0 5).mp c200002; simp only [xk_eq, Int32.toInt_toInt64, xk_lt, xk_le, xk_0, xk_1, xk_2, xk_3, xk_4, xk_5, xk_6, xk_7, xk_8, xk_50, xl_0, xl_1, xl_3, xl_4, xl_5, xl_6, xl_7, xl_50] at kc200002; rw [sp_rgr, if_neg (fun q => by omega)]⟩, by rw [ht]; exact hP, va_K.moved hW.alike hK, hD⟩, hS.F ht⟩) hS.2.2 dX7_register_13
set_option maxHeartbeats 4000000 in
set_option maxRecDepth 100000 in
/-- member, exactly -/
theorem e_X7_member (l : Launch) (dC : Nat → ClassId) (dI : Nat → Nat → Nat) (cy : Nat → ClassId) (w : Nat → Nat) (L : List Nat) (K N : Nat → Nat) (T : Nat → Nat → Nat) (Q : Nat → Nat → Option Nat) (I J : Nat → Nat → Int32) (sz : Nat) (E : Int) (xg : Int32) (xm : Int32) (hM : MS w L K N T Q) (hI : MI w E I J) (hE : E ≤ 1000) : Met l yX7_member wsX7_member ({ frames := 1, cells := 0, slots := 0, locals := 27 }) (va_Pc [.ref (w 0), .int xg, .int xm] (mW dC dI cy L (wF cy K N T I Q J) sz)) (va_Qi (fun (r : Int32) (d : (Nat → Nat → Int32) × (Nat → Nat → Int32)) => MI w (E + 5) d.1 d.2 ∧ RM w [] I (sp_mbJ w J xg xm) d.1 d.2 ∧ r = sp_mbr (J (w 14) xg.toNatClampNeg) xg xm) (fun (d : (Nat → Nat → Int32) × (Nat → Nat → Int32)) t => va_P (dC, dI) vwCl (va_pl L (wF cy K N T d.1 Q d.2)) t.heap ∧ va_K (dC, dI) vwCl (mTy cy) t ∧ va_D (va_A (va_pl L (wF cy K N T I Q J)) sz) (va_pl L (wF cy K N T d.1 Q d.2))) (va_A (va_pl L (wF cy K N T I Q J)) sz)) 0 0 (va_A (va_pl L (wF cy K N T I Q J)) sz) := by
  refine Met.ofW (cc := cX7_member) (maxL := 3) (ret := (some .int)) (by decide) rfl ?_
  intro p e s m args below meth c s₁ B hml hv
  obtain ⟨rfl, hsz, ⟨hP, hK⟩, hD0⟩ := hv
  have hx := B.exec
  have hb := B.bytes
  have hr := B.returns
  have hts := atoms_spec (ws := wsX7_member) B.pre
  have hown : s.vm.findClass RX7 = some m.cls := findClass_of_methodNamed B.named
  have hlocks := B.notSynchronized
  have hi7 : ∀ w ∈ wsX70, w ∈ wsX7_member := by decide +kernel
  have hl := lv_entry ([.ref (w 0), .int xg, .int xm]) (n := 3) (Nat.le_of_ble_eq_true rfl)
  rw [lg_entry_eq]
  generalize (lg_sl ([.ref (w 0), .int xg, .int xm]) ++ List.replicate (3 - (lg_sl ([.ref (w 0), .int xg, .int xm])).length) Slot.unset).toArray = ls at hl ⊢
  have hl : lv_has ls 3 [(0, .ref (w 0)), (1, .int xg), (2, .int xm)] := hl
  subst hsz
  have hD := hD0.self (sz := s.heap.size)
  generalize hAe : va_A (va_pl L (wF cy K N T I Q J)) s.heap.size = A at hD ⊢
  have hA : ∀ q : Nat, s.heap.size ≤ q → A q := fun q h => by rw [← hAe]; exact Or.inr h
  have hS : va_S A s.heap s.heap [] := va_S.rf
  have hR : RM w [13, 14] I J I J := RM.rf
  obtain ⟨hML, hMD, hMU⟩ := hI
  refine lv_iload_n hx hb dX7_member_0 rfl (lv_at hl 1 rfl) ?_
  refine lv_i2l (v := xg.toInt64) hx hb dX7_member_1 rfl ?_
  refine lv_lconst (v := 0) hx hb dX7_member_2 (by decide) ?_
  refine lv_ldc2 hx hb hown (hts (.constantLong RX7 80 3) (by decide +kernel)) dX7_member_3 ?_
  refine vp_callSi (W.runS (As := [.long xg.toInt64, .long 0, .long 3]) (rest := []) ⟨hx, hb, hml, hown, hts⟩ (c_X7_in l xg.toInt64 0 3) (va_cwS 3 hts gX7_member_X7_in rfl rfl rfl (by decide +kernel) ⟨Nat.le_of_ble_eq_true rfl, Nat.le_of_ble_eq_true rfl⟩) preEq rfl rfl hl.1 rfl (lv_room (Nat.le_of_ble_eq_true rfl)) dX7_member_6 ⟨Nat.le_of_ble_eq_true rfl, Nat.le_of_ble_eq_true rfl⟩) (fun r200042 hr200042 => ?_)
  subst hr200042
  refine lv_if_eq (tgt := 24) hx hb dX7_member_9 (by decide) (fun c200043 => ?_) (fun c200043 => ?_)
  · refine lv_iconst (v := (-1)) hx hb dX7_member_24 (by decide) ?_
    exact W.iret (v := (-1)) hx hb hr (fun t ht hW => ⟨⟨(-1), (I, J), rfl, ⟨⟨hML.mono (by omega), hMD, hMU⟩, by have kc200043 := (sp_in_0 xg 0 3).mp c200043; simp only [xk_eq, Int32.toInt_toInt64, xk_lt, xk_le, xk_0, xk_1, xk_2, xk_3, xk_4, xk_5, xk_6, xk_7, xk_8, xk_50, xl_0, xl_1, xl_3, xl_4, xl_5, xl_6, xl_7, xl_50] at kc200043; rw [sp_mbJ, if_neg (fun q => by omega)]; exact hR.no (fun _ _ _ => rfl), by show _ = _; have kc200043 := (sp_in_0 xg 0 3).mp c200043; simp only [xk_eq, Int32.toInt_toInt64, xk_lt, xk_le, xk_0, xk_1, xk_2, xk_3, xk_4, xk_5, xk_6, xk_7, xk_8, xk_50, xl_0, xl_1, xl_3, xl_4, xl_5, xl_6, xl_7, xl_50] at kc200043; rw [sp_mbr, if_neg (fun q => by omega)]⟩, by rw [ht]; exact hP, va_K.moved hW.alike hK, hD⟩, hS.F ht⟩) hS.2.2 dX7_member_25
  · have hin200044 : vp_in xg 4 := xin_sp c200043 (by decide)
    refine lv_iload_n hx hb dX7_member_12 rfl (lv_at hl 2 rfl) ?_
    refine lv_i2l (v := xm.toInt64) hx hb dX7_member_13 rfl ?_
    refine lv_lconst (v := 0) hx hb dX7_member_14 (by decide) ?_
    refine lv_ldc2 hx hb hown (hts (.constantLong RX7 173 7) (by decide +kernel)) dX7_member_15 ?_
    refine vp_callSi (W.runS (As := [.long xm.toInt64, .long 0, .long 7]) (rest := []) ⟨hx, hb, hml, hown, hts⟩ (c_X7_in l xm.toInt64 0 7) (va_cwS 3 hts gX7_member_X7_in rfl rfl rfl (by decide +kernel) ⟨Nat.le_of_ble_eq_true rfl, Nat.le_of_ble_eq_true rfl⟩) preEq rfl rfl hl.1 rfl (lv_room (Nat.le_of_ble_eq_true rfl)) dX7_member_18 ⟨Nat.le_of_ble_eq_true rfl, Nat.le_of_ble_eq_true rfl⟩) (fun r200045 hr200045 => ?_)
    subst hr200045
    refine lv_if_ne (tgt := 26) hx hb dX7_member_21 (by decide) (fun c200046 => ?_) (fun c200046 => ?_)
    · have hin200047 : vp_in xm 8 := xin_sp c200046 (by decide)
      refine lv_aload_n hx hb dX7_member_26 rfl (lv_at hl 0 rfl) ?_
      obtain ⟨j200048, hj200048⟩ := wG_7 (cy := cy) (N := N) (T := T) (I := I) (Q := Q) (J := J) (hM.at 0 (by decide)) (hM.k 0 (by decide) rfl)
      refine va_get (D := (dC, dI)) (ci := 7) (v := .ref (T (w 0) 12)) (C := RX7) (T := TX7) (N := 18) hx hb hts hi7 hown hK hP j200048 hj200048 rfl 12 (by decide) (hts (.fieldLink RX7 49 "TallyLogsModel" "members" "[I") (by decide +kernel)) (fun _ h9 => h9) rfl dX7_member_27 ?_
      refine W.eq (g2 := F0 m 30 ls [.ref (w 13)]) (by rw [hM.t 12 (by decide)]) ?_
      refine lv_iload_n hx hb dX7_member_30 rfl (lv_at hl 1 rfl) ?_
      refine lv_dup2_11 hx hb dX7_member_31 rfl rfl ?_
      obtain ⟨j200049, hj200049⟩ := wG_20 (cy := cy) (N := N) (T := T) (I := I) (Q := Q) (J := J) (hM.at 13 (by decide)) (hM.k 13 (by decide) rfl)
      refine va_iald hx hb hK hP j200049 1 hj200049 rfl (hM.inN (n := 4) 13 (by decide) rfl rfl hin200044) dX7_member_32 ?_
      refine lv_topi (fun x200050 ex200050 => ?_)
      refine lv_iconst (v := 1) hx hb dX7_member_33 (by decide) ?_
      refine lv_iload_n hx hb dX7_member_34 rfl (lv_at hl 2 rfl) ?_
      refine lv_ishl hx hb dX7_member_35 ?_
      refine lv_topi (fun v200051 ev200051 => ?_)
      refine lv_ixor hx hb dX7_member_36 ?_
      refine lv_topi (fun v200052 ev200052 => ?_)
      obtain ⟨j200053, hj200053⟩ := wG_20 (cy := cy) (N := N) (T := T) (I := I) (Q := Q) (J := J) (hM.at 13 (by decide)) (hM.k 13 (by decide) rfl)
      have hDo := hD
      refine va_iast (x := v200052) hx hb hK hP hD hS j200053 1 hj200053 rfl (hM.inN (n := 4) 13 (by decide) rfl rfl hin200044) dX7_member_37 (fun H locs hP hD hS => ?_)
      have hP := Eq.mp (congrArg (fun w => va_P (dC, dI) vwCl w H) (wS_20 hDo (hM.at 13 (by decide)) (hM.k 13 (by decide) rfl) hj200053)) hP
      obtain ⟨J200054, eJ200054⟩ : ∃ z, z = va_up J (w 13) (upd (J (w 13)) xg.toNatClampNeg v200052) := ⟨_, rfl⟩
      rw [← eJ200054] at hP
      have hR : RM w [13, 14] I J I J200054 := by rw [eJ200054]; exact hR.pj hM (by decide) (by decide)
      have hMD : MD w J200054 := by rw [eJ200054]; exact hMD.pj hM (by decide) (by decide)
      have hD : va_D A (va_pl L (wF cy K N T I Q J200054)) := pD hDo
      refine lv_aload_n hx hb dX7_member_38 rfl (lv_at hl 0 rfl) ?_
      obtain ⟨j200055, hj200055⟩ := wG_7 (cy := cy) (N := N) (T := T) (I := I) (Q := Q) (J := J200054) (hM.at 0 (by decide)) (hM.k 0 (by decide) rfl)
      refine va_get (D := (dC, dI)) (ci := 7) (v := .ref (T (w 0) 13)) (C := RX7) (T := TX7) (N := 18) hx hb hts hi7 hown hK hP j200055 hj200055 rfl 13 (by decide) (hts (.fieldLink RX7 52 "TallyLogsModel" "round" "[I") (by decide +kernel)) (fun _ h9 => h9) rfl dX7_member_39 ?_
      refine W.eq (g2 := F0 m 42 ls [.ref (w 14)]) (by rw [hM.t 13 (by decide)]) ?_
      refine lv_iload_n hx hb dX7_member_42 rfl (lv_at hl 1 rfl) ?_
      refine lv_dup2_11 hx hb dX7_member_43 rfl rfl ?_
      obtain ⟨j200056, hj200056⟩ := wG_20 (cy := cy) (N := N) (T := T) (I := I) (Q := Q) (J := J200054) (hM.at 14 (by decide)) (hM.k 14 (by decide) rfl)
      refine va_iald hx hb hK hP j200056 1 hj200056 rfl (hM.inN (n := 4) 14 (by decide) rfl rfl hin200044) dX7_member_44 ?_
      refine lv_topi (fun x200057 ex200057 => ?_)
      refine lv_iconst (v := 1) hx hb dX7_member_45 (by decide) ?_
      refine lv_iadd hx hb dX7_member_46 ?_
      refine lv_topi (fun v200058 ev200058 => ?_)
      obtain ⟨j200059, hj200059⟩ := wG_20 (cy := cy) (N := N) (T := T) (I := I) (Q := Q) (J := J200054) (hM.at 14 (by decide)) (hM.k 14 (by decide) rfl)
      have hDo := hD
      refine va_iast (x := v200058) hx hb hK hP hD hS j200059 1 hj200059 rfl (hM.inN (n := 4) 14 (by decide) rfl rfl hin200044) dX7_member_47 (fun H locs hP hD hS => ?_)
      have hP := Eq.mp (congrArg (fun w => va_P (dC, dI) vwCl w H) (wS_20 hDo (hM.at 14 (by decide)) (hM.k 14 (by decide) rfl) hj200059)) hP
      obtain ⟨J200060, eJ200060⟩ : ∃ z, z = va_up J200054 (w 14) (upd (J200054 (w 14)) xg.toNatClampNeg v200058) := ⟨_, rfl⟩
      rw [← eJ200060] at hP
      have hR : RM w [13, 14] I J I J200060 := by rw [eJ200060]; exact hR.pj hM (by decide) (by decide)
      have hMD : MD w J200060 := by rw [eJ200060]; exact hMD.pj hM (by decide) (by decide)
      have hD : va_D A (va_pl L (wF cy K N T I Q J200060)) := pD hDo
      refine lv_aload_n hx hb dX7_member_48 rfl (lv_at hl 0 rfl) ?_
      obtain ⟨j200061, hj200061⟩ := wG_7 (cy := cy) (N := N) (T := T) (I := I) (Q := Q) (J := J200060) (hM.at 0 (by decide)) (hM.k 0 (by decide) rfl)
      refine va_get (D := (dC, dI)) (ci := 7) (v := .ref (T (w 0) 13)) (C := RX7) (T := TX7) (N := 18) hx hb hts hi7 hown hK hP j200061 hj200061 rfl 13 (by decide) (hts (.fieldLink RX7 52 "TallyLogsModel" "round" "[I") (by decide +kernel)) (fun _ h9 => h9) rfl dX7_member_49 ?_
      refine W.eq (g2 := F0 m 52 ls [.ref (w 14)]) (by rw [hM.t 13 (by decide)]) ?_
      refine lv_iload_n hx hb dX7_member_52 rfl (lv_at hl 1 rfl) ?_
      obtain ⟨j200062, hj200062⟩ := wG_20 (cy := cy) (N := N) (T := T) (I := I) (Q := Q) (J := J200060) (hM.at 14 (by decide)) (hM.k 14 (by decide) rfl)
      refine va_iald hx hb hK hP j200062 1 hj200062 rfl (hM.inN (n := 4) 14 (by decide) rfl rfl hin200044) dX7_member_53 ?_
      refine lv_topi (fun x200063 ex200063 => ?_)
      exact W.iret (v := x200063) hx hb hr (fun t ht hW => ⟨⟨x200063, (I, J200060), rfl, ⟨⟨hML.mono (by omega), hMD, hMU⟩, by have h9 := vp_in_iff.mp hin200044; have h8 := vp_in_iff.mp hin200047; rw [sp_mbJ, if_pos ⟨⟨by omega, by omega⟩, by omega, by omega⟩]; exact hR.re (fun k hk hx => (va_up_ne _ _ (hM.ne (by omega) (by decide) (fun q => hx (by rw [q]; decide)))).trans (va_up_ne _ _ (hM.ne (by omega) (by decide) (fun q => hx (by rw [q]; decide))))) (fun k hk he => by rcases List.mem_cons.mp he with rfl | he; (show J200060 (w 13) = _; rw [eJ200060, va_up_ne _ _ (hM.ne (i := 13) (j := 14) (by decide) (by decide) (by decide)), eJ200054, va_up_self, ev200052, ex200050, ev200051]; rw [va_up_ne _ _ (hM.ne (i := 13) (j := 14) (by decide) (by decide) (by decide)), va_up_self]); obtain rfl := List.mem_singleton.mp he; show J200060 (w 14) = _; rw [eJ200060, va_up_self, ev200058, ex200057, eJ200054, va_up_ne _ _ (hM.ne (i := 14) (j := 13) (by decide) (by decide) (by decide))]; rw [va_up_self]), by show _ = _; have h9 := vp_in_iff.mp hin200044; have h8 := vp_in_iff.mp hin200047; rw [sp_mbr, if_pos ⟨⟨by omega, by omega⟩, by omega, by omega⟩, ex200063, eJ200060, va_up_self, pk_us, ev200058, ex200057, eJ200054, va_up_ne _ _ (hM.ne (i := 14) (j := 13) (by decide) (by decide) (by decide))]⟩, by rw [ht]; exact hP, va_K.moved hW.alike hK, hD⟩, hS.F ht⟩) hS.2.2 dX7_member_54
    · refine lv_iconst (v := (-1)) hx hb dX7_member_24 (by decide) ?_
      exact W.iret (v := (-1)) hx hb hr (fun t ht hW => ⟨⟨(-1), (I, J), rfl, ⟨⟨hML.mono (by omega), hMD, hMU⟩, by have kc200043 := (not_congr (sp_in_0 xg 0 3)).mp c200043; have kc200046 := (sp_in_0 xm 0 7).mp c200046; simp only [xk_eq, Int32.toInt_toInt64, xk_lt, xk_le, xk_0, xk_1, xk_2, xk_3, xk_4, xk_5, xk_6, xk_7, xk_8, xk_50, xl_0, xl_1, xl_3, xl_4, xl_5, xl_6, xl_7, xl_50] at kc200043 kc200046; rw [sp_mbJ, if_neg (fun q => by omega)]; exact hR.no (fun _ _ _ => rfl), by show _ = _; have kc200043 := (not_congr (sp_in_0 xg 0 3)).mp c200043; have kc200046 := (sp_in_0 xm 0 7).mp c200046; simp only [xk_eq, Int32.toInt_toInt64, xk_lt, xk_le, xk_0, xk_1, xk_2, xk_3, xk_4, xk_5, xk_6, xk_7, xk_8, xk_50, xl_0, xl_1, xl_3, xl_4, xl_5, xl_6, xl_7, xl_50] at kc200043 kc200046; rw [sp_mbr, if_neg (fun q => by omega)]⟩, by rw [ht]; exact hP, va_K.moved hW.alike hK, hD⟩, hS.F ht⟩) hS.2.2 dX7_member_25
