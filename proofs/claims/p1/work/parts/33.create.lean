set_option maxHeartbeats 4000000 in
set_option maxRecDepth 100000 in
/-- create -/
theorem c_X5_create (l : Launch) (dC : Nat → ClassId) (dI : Nat → Nat → Nat) (v : Nat → Nat) (cy : Nat → ClassId) (sz : Nat) (xp : Int32) (xr : Int32) (xm : Int32) : Met l yX5_create wsX5_create ({ frames := 3, cells := 12, slots := 346, locals := 67 }) (va_Pc [.ref (v 0), .int xp, .int xr, .int xm] (fun U => U.heap.size = sz ∧ fxB dC dI v cy U ∧ va_D (fun _ => True) (fxW v cy) ∧ va_AO "TallyLogs$Replica" U ∧ va_AO "TallyLogs$Entry" U ∧ va_Nw (.methodLinkNest RX2 30 yX5_leastOf "TallyLogs") U ∧ va_Nw (.methodLinkNest RX2 37 yX5_contains "TallyLogs") U)) (va_Qi (fun (r : Int32) (_ : Unit) => r = sp_ce xp xr xm) (fun _ _ => True) (va_A (fxW v cy) sz)) 12 346 (va_A (fxW v cy) sz) := by
  refine Met.ofW (cc := cX5_create) (maxL := 6) (ret := (some .int)) (by decide) rfl ?_
  intro p e s m args below meth c s₁ B hml hv
  obtain ⟨rfl, hsz, ⟨hP, hK⟩, hD0, hoR4, ho4, hn30, hn37⟩ := hv
  have hx := B.exec
  have hb := B.bytes
  have hr := B.returns
  have hts := atoms_spec (ws := wsX5_create) B.pre
  have hown : s.vm.findClass RX5 = some m.cls := findClass_of_methodNamed B.named
  have hlocks := B.notSynchronized
  have hi5 : ∀ w ∈ wsX50, w ∈ wsX5_create := by decide +kernel
  have hi2 : ∀ w ∈ wsX20, w ∈ wsX5_create := by decide +kernel
  have hl := lv_entry ([.ref (v 0), .int xp, .int xr, .int xm]) (n := 6) (Nat.le_of_ble_eq_true rfl)
  rw [lg_entry_eq]
  generalize (lg_sl ([.ref (v 0), .int xp, .int xr, .int xm]) ++ List.replicate (6 - (lg_sl ([.ref (v 0), .int xp, .int xr, .int xm])).length) Slot.unset).toArray = ls at hl ⊢
  have hl : lv_has ls 6 [(0, .ref (v 0)), (1, .int xp), (2, .int xr), (3, .int xm)] := hl
  subst hsz
  have hD := hD0.self (sz := s.heap.size)
  generalize hAe : va_A (fxW v cy) s.heap.size = A at hD ⊢
  have hA : ∀ q : Nat, s.heap.size ≤ q → A q := fun q h => by rw [← hAe]; exact Or.inr h
  have hS : va_S A s.heap s.heap [] := va_S.rf
  refine lv_iload_n hx hb dX5_create_0 rfl (lv_at hl 2 rfl) ?_
  refine lv_bipush (v := 31) hx hb dX5_create_1 (by decide) ?_
  refine lv_iand hx hb dX5_create_3 ?_
  refine lv_topi (fun v389 ev389 => ?_)
  refine lv_istore (lv' := [(4, .int v389), (0, .ref (v 0)), (1, .int xp), (2, .int xr), (3, .int xm)]) hx hb dX5_create_4 hl (by decide) rfl (fun ls hl => ?_)
  refine lv_iload_n hx hb dX5_create_6 rfl (lv_at hl 2 rfl) ?_
  refine lv_if_lt (tgt := 24) hx hb dX5_create_7 (by decide) (fun c390 => ?_) (fun c390 => ?_)
  · refine lv_iconst (v := (-1)) hx hb dX5_create_24 (by decide) ?_
    refine W.widen (k := 12) (n := 346) (by omega) (by omega) ?_
    exact W.iret (v := (-1)) hx hb hr (fun t ht hW => ⟨⟨(-1), (), rfl, by show _ = _; subst ev389; have kc390 := c390; simp only [xk_eq, Int32.toInt_toInt64, xk_lt, xk_le, xk_0, xk_1, xk_2, xk_3, xk_4, xk_5, xk_6, xk_7, xk_8, xk_50, xl_0, xl_1, xl_3, xl_4, xl_5, xl_6, xl_7, xl_50] at kc390; unfold sp_ce; (repeat' split); all_goals first | rfl | omega | (exfalso; omega) | contradiction, trivial⟩, hS.F ht⟩) hS.2.2 dX5_create_25
  · refine lv_iload_n hx hb dX5_create_10 rfl (lv_at hl 2 rfl) ?_
    refine lv_iconst (v := 4) hx hb dX5_create_11 (by decide) ?_
    refine lv_icmp_ge (tgt := 24) hx hb dX5_create_12 (by decide) (fun c391 => ?_) (fun c391 => ?_)
    · refine lv_iconst (v := (-1)) hx hb dX5_create_24 (by decide) ?_
      refine W.widen (k := 12) (n := 346) (by omega) (by omega) ?_
      exact W.iret (v := (-1)) hx hb hr (fun t ht hW => ⟨⟨(-1), (), rfl, by show _ = _; subst ev389; have kc390 := c390; have kc391 := c391; simp only [xk_eq, Int32.toInt_toInt64, xk_lt, xk_le, xk_0, xk_1, xk_2, xk_3, xk_4, xk_5, xk_6, xk_7, xk_8, xk_50, xl_0, xl_1, xl_3, xl_4, xl_5, xl_6, xl_7, xl_50] at kc390 kc391; unfold sp_ce; (repeat' split); all_goals first | rfl | omega | (exfalso; omega) | contradiction, trivial⟩, hS.F ht⟩) hS.2.2 dX5_create_25
    · refine lv_aload_n hx hb dX5_create_15 rfl (lv_at hl 1 rfl) ?_
      refine va_get (D := (dC, dI)) (ci := 5) (v := .ref (v 1)) (C := RX5) (T := TX5) (N := 6) hx hb hts hi5 hown hK hP 0 rfl rfl 0 (by decide) (hts (.fieldLink RX5 11 "TallyLogs" "partitions" "[LTallyLogs$Partition;") (by decide +kernel)) (fun _ h9 => h9) rfl dX5_create_16 ?_
      refine lv_iload_n hx hb dX5_create_19 rfl (lv_at hl 2 rfl) ?_
      have hin392 : vp_in xp 4 := xin_of (by have kc390 := c390; have kc391 := c391; simp only [xk_lt, xk_le, xk_0, xk_1, xk_2, xk_3, xk_4, xk_5, xk_6, xk_7, xk_8, xk_50] at kc390 kc391; omega) (by have kc390 := c390; have kc391 := c391; simp only [xk_lt, xk_le, xk_0, xk_1, xk_2, xk_3, xk_4, xk_5, xk_6, xk_7, xk_8, xk_50] at kc390 kc391; omega)
      refine va_aldq hx hb hK hP 1 0 rfl rfl hin392 dX5_create_20 ?_
      refine W.eq (g2 := F0 m 21 ls [.null]) rfl ?_
      refine lv_ifnullN (tgt := 26) hx hb dX5_create_21 (by decide) ?_
      refine lv_iload_n hx hb dX5_create_26 rfl (lv_at hl 4 rfl) ?_
      refine lv_iconst (v := 1) hx hb dX5_create_27 (by decide) ?_
      refine lv_icmp_lt (tgt := 40) hx hb dX5_create_28 (by decide) (fun c393 => ?_) (fun c393 => ?_)
      · refine lv_iconst (v := (-1)) hx hb dX5_create_40 (by decide) ?_
        refine W.widen (k := 12) (n := 346) (by omega) (by omega) ?_
        exact W.iret (v := (-1)) hx hb hr (fun t ht hW => ⟨⟨(-1), (), rfl, by show _ = _; subst ev389; have kc390 := c390; have kc391 := c391; have kc393 := c393; simp only [xk_eq, Int32.toInt_toInt64, xk_lt, xk_le, xk_0, xk_1, xk_2, xk_3, xk_4, xk_5, xk_6, xk_7, xk_8, xk_50, xl_0, xl_1, xl_3, xl_4, xl_5, xl_6, xl_7, xl_50] at kc390 kc391 kc393; unfold sp_ce; (repeat' split); all_goals first | rfl | omega | (exfalso; omega) | contradiction, trivial⟩, hS.F ht⟩) hS.2.2 dX5_create_41
      · refine lv_iload_n hx hb dX5_create_31 rfl (lv_at hl 4 rfl) ?_
        refine lv_iload hx hb dX5_create_32 (lv_at hl 0 rfl) ?_
        refine vp_callSi (W.runS (As := [.int v389]) (rest := [.int xm]) ⟨hx, hb, hml, hown, hts⟩ (c_J6_bitCount_0f7a4 l v389) (va_cwS 1 hts gX5_create_J6_bitCount_0f7a4 rfl rfl rfl (by decide +kernel) ⟨Nat.le_of_ble_eq_true rfl, Nat.le_of_ble_eq_true rfl⟩) preEq rfl rfl hl.1 rfl (lv_room (Nat.le_of_ble_eq_true rfl)) dX5_create_34 ⟨Nat.le_of_ble_eq_true rfl, Nat.le_of_ble_eq_true rfl⟩) (fun r394 hr394 => ?_)
        subst hr394
        refine lv_icmp_le (tgt := 42) hx hb dX5_create_37 (by decide) (fun c395 => ?_) (fun c395 => ?_)
        · refine lv_iload hx hb dX5_create_42 (lv_at hl 0 rfl) ?_
          refine lv_aload_n hx hb dX5_create_44 rfl (lv_at hl 1 rfl) ?_
          refine va_get (D := (dC, dI)) (ci := 5) (v := .int 31) (C := RX5) (T := TX5) (N := 6) hx hb hts hi5 hown hK hP 0 rfl rfl 3 (by decide) (hts (.fieldLink RX5 27 "TallyLogs" "up" "I") (by decide +kernel)) (fun _ h9 => h9) rfl dX5_create_45 ?_
          refine lv_iand hx hb dX5_create_48 ?_
          refine lv_topi (fun v396 ev396 => ?_)
          refine lv_if_ne (tgt := 55) hx hb dX5_create_49 (by decide) (fun c397 => ?_) (fun c397 => ?_)
          · refine va_new (ci := 2) (fs := [.int 0, .int 0, .null, .int 0, .int 0, .int 0]) (C := RX2) (T := TX2) (N := 6) hx hb hts hi2 tyX2 tyX2_ok hown (hts (.classLink RX5 9 RX2) (by decide +kernel)) (hts (.instantiable RX2 6) (by decide +kernel)) (hts (.initialized RX2) (by decide +kernel)) hK hP hD hS hA rfl (fun j hj => by rcases (show j = 0 ∨ j = 1 ∨ j = 2 ∨ j = 3 ∨ j = 4 ∨ j = 5 by omega) with rfl | rfl | rfl | rfl | rfl | rfl <;> rfl) (Nat.le_of_ble_eq_true rfl) (Nat.le_of_ble_eq_true rfl) dX5_create_55 (fun q398 H hP hD hS => ?_)
            refine W.widen (k := 1) (n := 6) (by omega) (by omega) ?_
            refine lv_dup hx hb dX5_create_58 rfl ?_
            refine lv_iload hx hb dX5_create_59 (lv_at hl 0 rfl) ?_
            refine lv_iload hx hb dX5_create_61 (lv_at hl 0 rfl) ?_
            refine lv_aload_n hx hb dX5_create_63 rfl (lv_at hl 1 rfl) ?_
            refine va_get (D := (dC, dI)) (ci := 5) (v := .int 31) (C := RX5) (T := TX5) (N := 6) hx hb hts hi5 hown hK hP 0 rfl rfl 3 (by decide) (hts (.fieldLink RX5 27 "TallyLogs" "up" "I") (by decide +kernel)) (fun _ h9 => h9) rfl dX5_create_64 ?_
            refine lv_iand hx hb dX5_create_67 ?_
            refine lv_topi (fun v399 ev399 => ?_)
            refine lv_iload_n hx hb dX5_create_68 rfl (lv_at hl 4 rfl) ?_
            refine lv_aload_n hx hb dX5_create_69 rfl (lv_at hl 1 rfl) ?_
            refine va_get (D := (dC, dI)) (ci := 5) (v := .int 0) (C := RX5) (T := TX5) (N := 6) hx hb hts hi5 hown hK hP 0 rfl rfl 4 (by decide) (hts (.fieldLink RX5 31 "TallyLogs" "now" "I") (by decide +kernel)) (fun _ h9 => h9) rfl dX5_create_70 ?_
            have hPc := hP.sub (ws' := [(q398, .inr (2, [.int 0, .int 0, .null, .int 0, .int 0, .int 0]))]) [18] rfl
            have hDc := hD.sub (ws' := [(q398, .inr (2, [.int 0, .int 0, .null, .int 0, .int 0, .int 0]))]) [18] (by decide) rfl
            have hKc := hK.sub (tys' := []) [] rfl
            have hFc := va_free (wc := [(q398, .inr (2, [.int 0, .int 0, .null, .int 0, .int 0, .int 0]))]) hD hS hA [18] rfl
            refine va_callv (va_runI (As := [.int v389, .int v399, .int xm, .int 0]) (rest := [.ref q398]) ⟨hx, hb, hml, hown, hts⟩ (c_X2_init l dC dI q398 H.size v389 v399 xm 0) (cwI 4 hts gX5_create_X2_init rfl rfl rfl (hts (.initialized RX2) (by decide +kernel)) (hts (.methodLink RX5 48 yX2_init) (by decide +kernel)) (hts (.instanceMethod yX2_init) (by decide +kernel)) rfl (by decide +kernel) ⟨Nat.le_of_ble_eq_true rfl, Nat.le_of_ble_eq_true rfl⟩) ⟨fun a U g mk q => by obtain ⟨q0, q1, qP, qK, qD, qo1, qo2, qn1, qn2⟩ := q; exact ⟨q0, q1, qP, va_K.moved (u := U) (U := U.calling g mk a) (Vm.Alike.refl U.vm) qK, qD, va_AO.moved (u := U) (U := U.calling g mk a) (Vm.Alike.refl U.vm) qo1, va_AO.moved (u := U) (U := U.calling g mk a) (Vm.Alike.refl U.vm) qo2, va_Nw.same rfl (rfl : U.vm = (U.calling g mk a).vm) qn1, va_Nw.same rfl (rfl : U.vm = (U.calling g mk a).vm) qn2⟩, fun U hU hW => ⟨rfl, by rw [hU], by rw [hU]; exact hPc, va_K.moved hW.alike hKc, hDc.weaken (fun _ _ _ _ => trivial), va_AO.moved hW.alike hoR4, va_AO.moved hW.alike ho4, va_Nw.warmM hW hn30, va_Nw.warmM hW hn37⟩⟩ rfl rfl hl.1 rfl (lv_room (Nat.le_of_ble_eq_true rfl)) dX5_create_73 ⟨Nat.le_of_ble_eq_true rfl, Nat.le_of_ble_eq_true rfl⟩) hS (fun q _ h => hFc q h) hFc (fun u t H1 locs ht hvm hw hB hz1 hk1 hS => ?_)
            obtain ⟨qa400, hP1, hK1, hD1⟩ := hB
            rw [ht] at hP1
            have hK1 := va_K.moved hvm.symm hK1
            obtain ⟨hP, hD⟩ := va_join (wr := [((v 0), .inr (5, [.ref (v 1), .ref (v 2), .ref (v 3), .int 31, .int 0, .null])), ((v 1), .inl ((cy 0), 4, .inr (.inr (.inr (.inr (fun _ => none)))))), ((v 2), .inl ((cy 1), 6, .inr (.inr (.inr (.inr (fR v)))))), ((v 3), .inl ((cy 2), 4, .inr (.inr (.inr (.inr (fG v)))))), ((v 4), .inr (3, [.int 0, .int (-1), .int 0, .int 0, .int (-1), .int 0])), ((v 5), .inr (3, [.int 1, .int (-1), .int 0, .int 0, .int (-1), .int 0])), ((v 6), .inr (3, [.int 2, .int (-1), .int 0, .int 0, .int (-1), .int 0])), ((v 7), .inr (3, [.int 3, .int (-1), .int 0, .int 0, .int (-1), .int 0])), ((v 8), .inr (3, [.int 4, .int (-1), .int 0, .int 0, .int (-1), .int 0])), ((v 9), .inr (3, [.int 5, .int (-1), .int 0, .int 0, .int (-1), .int 0])), ((v 10), .inr (1, [.int 0, .int 0, .ref (v 14)])), ((v 11), .inr (1, [.int 0, .int 0, .ref (v 15)])), ((v 12), .inr (1, [.int 0, .int 0, .ref (v 16)])), ((v 13), .inr (1, [.int 0, .int 0, .ref (v 17)])), ((v 14), .inl ((cy 3), 4, .inl (fun _ => 0))), ((v 15), .inl ((cy 3), 4, .inl (fun _ => 0))), ((v 16), .inl ((cy 3), 4, .inl (fun _ => 0))), ((v 17), .inl ((cy 3), 4, .inl (fun _ => 0)))]) (w1 := [(q398, .inr (2, [.int v389, .int xm, .ref qa400, .int (sp_lo v399), .int 0, .int v399]))]) hP hD [18] [0, 1, 2, 3, 4, 5, 6, 7, 8, 9, 10, 11, 12, 13, 14, 15, 16, 17] rfl rfl (by decide +kernel) (by decide +kernel) hk1 hFc hP1 hD1
            have hK := (hK.sub (tys' := [((cy 0), .object "TallyLogs$Partition"), ((cy 1), .object "TallyLogs$Producer"), ((cy 2), .object "TallyLogs$Group"), ((cy 3), .int)]) [0, 1, 2, 3] rfl).app hK1
            generalize H1 = H at hP hS ⊢
            have hK : va_K (dC, dI) vwCl [((cy 0), .object "TallyLogs$Partition"), ((cy 1), .object "TallyLogs$Producer"), ((cy 2), .object "TallyLogs$Group"), ((cy 3), .int)] s := hK
            refine W.widen (k := 12) (n := 346) (by omega) (by omega) ?_
            refine lv_astore (lv' := [(5, .ref q398), (4, .int v389), (0, .ref (v 0)), (1, .int xp), (2, .int xr), (3, .int xm)]) hx hb dX5_create_76 hl (by decide) rfl (fun ls hl => ?_)
            refine lv_aload_n hx hb dX5_create_78 rfl (lv_at hl 2 rfl) ?_
            refine va_get (D := (dC, dI)) (ci := 5) (v := .ref (v 1)) (C := RX5) (T := TX5) (N := 6) hx hb hts hi5 hown hK hP 0 rfl rfl 0 (by decide) (hts (.fieldLink RX5 11 "TallyLogs" "partitions" "[LTallyLogs$Partition;") (by decide +kernel)) (fun _ h9 => h9) rfl dX5_create_79 ?_
            refine lv_iload_n hx hb dX5_create_82 rfl (lv_at hl 3 rfl) ?_
            refine lv_aload hx hb dX5_create_83 (lv_at hl 0 rfl) ?_
            refine va_astq hx hb hK hP hD hS 1 0 18 2 rfl rfl rfl rfl hin392 dX5_create_85 (fun H locs hP hD hS => ?_)
            refine lv_aload hx hb dX5_create_86 (lv_at hl 0 rfl) ?_
            refine va_get (D := (dC, dI)) (ci := 2) (v := .int (sp_lo v399)) (C := RX2) (T := TX2) (N := 6) hx hb hts hi2 hown hK hP 18 rfl rfl 3 (by decide) (hts (.fieldLink RX5 51 "TallyLogs$Partition" "leader" "I") (by decide +kernel)) (fun _ h9 => h9) rfl dX5_create_88 ?_
            exact W.iret (v := (sp_lo v399)) hx hb hr (fun t ht hW => ⟨⟨(sp_lo v399), (), rfl, by show _ = _; subst ev389; subst ev396; subst ev399; have kc390 := c390; have kc391 := c391; have kc393 := c393; have kc395 := c395; simp only [xk_eq, Int32.toInt_toInt64, xk_lt, xk_le, xk_0, xk_1, xk_2, xk_3, xk_4, xk_5, xk_6, xk_7, xk_8, xk_50, xl_0, xl_1, xl_3, xl_4, xl_5, xl_6, xl_7, xl_50] at kc390 kc391 kc393 kc395; unfold sp_ce; (repeat' split); all_goals first | rfl | omega | (exfalso; omega) | contradiction, trivial⟩, hS.F ht⟩) hS.2.2 dX5_create_91
          · refine lv_bipush (v := (-2)) hx hb dX5_create_52 (by decide) ?_
            refine W.widen (k := 12) (n := 346) (by omega) (by omega) ?_
            exact W.iret (v := (-2)) hx hb hr (fun t ht hW => ⟨⟨(-2), (), rfl, by show _ = _; subst ev389; subst ev396; have kc390 := c390; have kc391 := c391; have kc393 := c393; have kc395 := c395; simp only [xk_eq, Int32.toInt_toInt64, xk_lt, xk_le, xk_0, xk_1, xk_2, xk_3, xk_4, xk_5, xk_6, xk_7, xk_8, xk_50, xl_0, xl_1, xl_3, xl_4, xl_5, xl_6, xl_7, xl_50] at kc390 kc391 kc393 kc395; unfold sp_ce; (repeat' split); all_goals first | rfl | omega | (exfalso; omega) | contradiction, trivial⟩, hS.F ht⟩) hS.2.2 dX5_create_54
        · refine lv_iconst (v := (-1)) hx hb dX5_create_40 (by decide) ?_
          refine W.widen (k := 12) (n := 346) (by omega) (by omega) ?_
          exact W.iret (v := (-1)) hx hb hr (fun t ht hW => ⟨⟨(-1), (), rfl, by show _ = _; subst ev389; have kc390 := c390; have kc391 := c391; have kc393 := c393; have kc395 := c395; simp only [xk_eq, Int32.toInt_toInt64, xk_lt, xk_le, xk_0, xk_1, xk_2, xk_3, xk_4, xk_5, xk_6, xk_7, xk_8, xk_50, xl_0, xl_1, xl_3, xl_4, xl_5, xl_6, xl_7, xl_50] at kc390 kc391 kc393 kc395; unfold sp_ce; (repeat' split); all_goals first | rfl | omega | (exfalso; omega) | contradiction, trivial⟩, hS.F ht⟩) hS.2.2 dX5_create_41
