set_option maxHeartbeats 4000000 in
set_option maxRecDepth 100000 in
/-- Replica.append, exactly -/
theorem g_X4_append (l : Launch) (dC : Nat → ClassId) (dI : Nat → Nat → Nat) (cy : Nat → ClassId) (v : Nat → Nat) (L : List Nat) (K N : Nat → Nat) (T : Nat → Nat → Nat) (I : Nat → Nat → Int32) (Q : Nat → Nat → Option Nat) (J : Nat → Nat → Int32) (sz : Nat) (pa ra : Nat → Nat) (kx : Nat → Prop) (σ : SG) (Gp Gn eb : Nat) (rr : Nat → Int32) (hE : REP v pa ra L K N T I Q J kx σ) (hp : Gp < 4) (hn : Gn < 5) (hl9 : lvj σ Gp Gn) (hN9 : LN (σ.2.1 (5 * Gp + Gn))) (hb0 : eb ∈ L) (hkb : K eb = 0) (h60 : (σ.2.1 (5 * Gp + Gn) 2).toInt < (σ.2.1 (5 * Gp + Gn) 1).toInt + 60) (hrr : ∀ f, f < 8 → I eb f = rr f) : Met l yX4_append wsX4_append ({ frames := 1, cells := 0, slots := 0, locals := 22 }) (va_Pc [.ref (ra (5 * Gp + Gn)), .ref eb] (pW dC dI cy L (pF cy K N T I Q J) sz)) (va_Qv (fun d : (Nat → Nat → Int32) × (Nat → Nat → Option Nat) × (Nat → Nat → Int32) => REP v pa ra L K N T d.1 d.2.1 d.2.2 kx (oAd σ (5 * Gp + Gn) rr)) (fun (d : (Nat → Nat → Int32) × (Nat → Nat → Option Nat) × (Nat → Nat → Int32)) t => va_P (dC, dI) vwCl (va_pl L (pF cy K N T d.1 d.2.1 d.2.2)) t.heap ∧ va_K (dC, dI) vwCl (pTy cy) t ∧ va_D (va_A (va_pl L (pF cy K N T I Q J)) sz) (va_pl L (pF cy K N T d.1 d.2.1 d.2.2))) (va_A (va_pl L (pF cy K N T I Q J)) sz)) 0 0 (va_A (va_pl L (pF cy K N T I Q J)) sz) := by
  refine Met.ofW (cc := cX4_append) (maxL := 2) (ret := none) (by decide) rfl ?_
  intro p e s m args below meth c s₁ B hml hv
  obtain ⟨rfl, hsz, ⟨hP, hK, hN⟩, hD0⟩ := hv
  have hx := B.exec
  have hb := B.bytes
  have hr := B.returns
  have hts := atoms_spec (ws := wsX4_append) B.pre
  have hown : s.vm.findClass RX4 = some m.cls := findClass_of_methodNamed B.named
  have hlocks := B.notSynchronized
  have hi4 : ∀ w ∈ wsX40, w ∈ wsX4_append := by decide +kernel
  have hl := lv_entry ([.ref (ra (5 * Gp + Gn)), .ref eb]) (n := 2) (Nat.le_of_ble_eq_true rfl)
  rw [lg_entry_eq]
  generalize (lg_sl ([.ref (ra (5 * Gp + Gn)), .ref eb]) ++ List.replicate (2 - (lg_sl ([.ref (ra (5 * Gp + Gn)), .ref eb])).length) Slot.unset).toArray = ls at hl ⊢
  have hl : lv_has ls 2 [(0, .ref (ra (5 * Gp + Gn))), (1, .ref eb)] := hl
  subst hsz
  have hD := hD0.self (sz := s.heap.size)
  generalize hAe : va_A (va_pl L (pF cy K N T I Q J)) s.heap.size = A at hD ⊢
  have hA : ∀ q : Nat, s.heap.size ≤ q → A q := fun q h => by rw [← hAe]; exact Or.inr h
  have hS : va_S A s.heap s.heap [] := va_S.rf
  have hR : RS v I Q J I Q J := RS.rf
  have hn28 := hN.1
  have hn30 := hN.2.1
  have hn37 := hN.2.2.1
  have hC := hE.ct
  obtain ⟨n1g, n2g, n3g, n4g⟩ := id hN9
  refine lv_aload_n hx hb dX4_append_0 rfl (lv_at hl 0 rfl) ?_
  obtain ⟨j520001, hj520001⟩ := pG_4 (cy := cy) (N := N) (T := T) (I := I) (Q := Q) (J := J) (hE.rL hp hn hl9).1 (hE.rL hp hn hl9).2
  refine va_get (D := (dC, dI)) (ci := 4) (v := .ref (T (ra (5 * Gp + Gn)) 0)) (C := RX4) (T := TX4) (N := 7) hx hb hts hi4 hown hK hP j520001 hj520001 rfl 0 (by decide) (hts (.fieldLink RX4 11 "TallyLogs$Replica" "slots" "[LTallyLogs$Entry;") (by decide +kernel)) (fun _ h9 => h9) rfl dX4_append_1 ?_
  obtain ⟨t520002, et520002⟩ : ∃ t, t = T (ra (5 * Gp + Gn)) 0 := ⟨_, rfl⟩
  have hLt520002 : t520002 ∈ L := by rw [et520002]; exact (hC.2.2.2.2.2.2.1 (ra (5 * Gp + Gn)) (hE.rL hp hn hl9).1 (hE.rL hp hn hl9).2).1
  have hkt520002 : K t520002 = 8 := by rw [et520002]; exact (hC.2.2.2.2.2.2.1 (ra (5 * Gp + Gn)) (hE.rL hp hn hl9).1 (hE.rL hp hn hl9).2).2
  refine W.eq (g2 := F0 m 4 ls [.ref t520002]) (by rw [et520002]) ?_
  refine lv_aload_n hx hb dX4_append_4 rfl (lv_at hl 0 rfl) ?_
  obtain ⟨j520003, hj520003⟩ := pG_4 (cy := cy) (N := N) (T := T) (I := I) (Q := Q) (J := J) (hE.rL hp hn hl9).1 (hE.rL hp hn hl9).2
  refine va_get (D := (dC, dI)) (ci := 4) (v := .int (I (ra (5 * Gp + Gn)) 2)) (C := RX4) (T := TX4) (N := 7) hx hb hts hi4 hown hK hP j520003 hj520003 rfl 2 (by decide) (hts (.fieldLink RX4 21 "TallyLogs$Replica" "end" "I") (by decide +kernel)) (fun _ h9 => h9) rfl dX4_append_5 ?_
  refine lv_topi (fun x520004 ex520004 => ?_)
  have sx520004 : x520004 = σ.2.1 (5 * Gp + Gn) 2 := ex520004.trans (hE.g hp hn hl9 (by decide) (by decide) (by decide))
  have ux520004 := sx520004
  have tx520004 : x520004.toInt = (σ.2.1 (5 * Gp + Gn) 2).toInt := congrArg Int32.toInt sx520004
  refine lv_bipush (v := 60) hx hb dX4_append_8 (by decide) ?_
  refine vp_callSi (W.runS (As := [.int x520004, .int 60]) (rest := [.ref t520002]) ⟨hx, hb, hml, hown, hts⟩ (c_J9_floorMod_7cf53 l x520004) (va_cwS 2 hts gX4_append_J9_floorMod_7cf53 rfl rfl rfl (by decide +kernel) ⟨Nat.le_of_ble_eq_true rfl, Nat.le_of_ble_eq_true rfl⟩) preEq rfl rfl hl.1 rfl (lv_room (Nat.le_of_ble_eq_true rfl)) dX4_append_10 ⟨Nat.le_of_ble_eq_true rfl, Nat.le_of_ble_eq_true rfl⟩) (fun r520005 hr520005 => ?_)
  have hinr520005 : vp_in r520005 60 := by rw [hr520005]; exact sp_fm_in _
  refine lv_aload_n hx hb dX4_append_13 rfl (lv_at hl 1 rfl) ?_
  obtain ⟨j520006, hj520006⟩ := pG_8 (cy := cy) (N := N) (T := T) (I := I) (Q := Q) (J := J) hLt520002 hkt520002
  have hDo := hD
  obtain ⟨j520007, hj520007⟩ := pG_0 (cy := cy) (N := N) (T := T) (I := I) (Q := Q) (J := J) hb0 hkb
  refine va_astq hx hb hK hP hD hS j520006 1 j520007 0 hj520006 rfl hj520007 rfl hinr520005 dX4_append_14 (fun H locs hP hD hS => ?_)
  have hP := Eq.mp (congrArg (fun w => va_P (dC, dI) vwCl w H) (pS_8 (x := (some eb)) hDo hLt520002 hkt520002 hj520006)) hP
  obtain ⟨Q520008, eQ520008⟩ : ∃ z, z = p2 Q t520002 r520005.toNatClampNeg (some eb) := ⟨_, rfl⟩
  rw [← eQ520008] at hP
  have hR : RS v I Q J I Q520008 J := by rw [eQ520008]; exact hR.pq hC (by rw [hkt520002]; decide)
  have hC : CT v L K N T I Q520008 := by rw [eQ520008]; exact hC.q8 hkt520002 (fun b hb => by cases hb; exact ⟨hb0, hkb⟩)
  have hD : va_D A (va_pl L (pF cy K N T I Q520008 J)) := pD hDo
  have hE : REP v pa ra L K N T I Q520008 J kx σ := by rw [eQ520008, et520002]; exact hE.wq hp hn hl9 (fun b hb => by cases hb; exact ⟨hb0, hkb⟩) (by rw [hr520005, sx520004, sp_fm_n (by omega)]; exact slot_free (by omega) (by omega) (by omega))
  refine lv_aload_n hx hb dX4_append_15 rfl (lv_at hl 0 rfl) ?_
  refine lv_dup hx hb dX4_append_16 rfl ?_
  obtain ⟨j520009, hj520009⟩ := pG_4 (cy := cy) (N := N) (T := T) (I := I) (Q := Q520008) (J := J) (hE.rL hp hn hl9).1 (hE.rL hp hn hl9).2
  refine va_get (D := (dC, dI)) (ci := 4) (v := .int (I (ra (5 * Gp + Gn)) 2)) (C := RX4) (T := TX4) (N := 7) hx hb hts hi4 hown hK hP j520009 hj520009 rfl 2 (by decide) (hts (.fieldLink RX4 21 "TallyLogs$Replica" "end" "I") (by decide +kernel)) (fun _ h9 => h9) rfl dX4_append_17 ?_
  refine lv_topi (fun x520010 ex520010 => ?_)
  have sx520010 : x520010 = σ.2.1 (5 * Gp + Gn) 2 := ex520010.trans (hE.g hp hn hl9 (by decide) (by decide) (by decide))
  have ux520010 := sx520010
  have tx520010 : x520010.toInt = (σ.2.1 (5 * Gp + Gn) 2).toInt := congrArg Int32.toInt sx520010
  refine lv_iconst (v := 1) hx hb dX4_append_20 (by decide) ?_
  refine lv_iadd hx hb dX4_append_21 ?_
  refine lv_topi (fun v520011 ev520011 => ?_)
  obtain ⟨j520012, hj520012⟩ := pG_4 (cy := cy) (N := N) (T := T) (I := I) (Q := Q520008) (J := J) (hE.rL hp hn hl9).1 (hE.rL hp hn hl9).2
  have hDo := hD
  refine va_put (D := (dC, dI)) (ci := 4) (v := .int v520011) (ty := .int) (C := RX4) (T := TX4) (N := 7) hx hb hts hi4 tyX4 tyX4_ok nmX4 hown hK hP hD hS j520012 hj520012 rfl 2 (by decide) (hts (.fieldLink RX4 21 "TallyLogs$Replica" "end" "I") (by decide +kernel)) (fun _ h9 => h9) rfl (by decide +kernel) rfl rfl (Nat.le_of_ble_eq_true rfl) dX4_append_22 (fun H locs hP hD hS => ?_)
  have hP := Eq.mp (congrArg (fun w => va_P (dC, dI) vwCl w H) (pP_4_2 (x := v520011) hDo (hE.rL hp hn hl9).1 (hE.rL hp hn hl9).2 hj520012)) hP
  obtain ⟨I520013, eI520013⟩ : ∃ z, z = p2 I (ra (5 * Gp + Gn)) 2 v520011 := ⟨_, rfl⟩
  rw [← eI520013] at hP
  have hR : RS v I520013 Q520008 J I520013 Q520008 J := RS.rf
  have hsl : Q520008 (T (ra (5 * Gp + Gn)) 0) (ze σ (5 * Gp + Gn) % 60) = some eb := by rw [eQ520008, et520002, hr520005, sx520004, sp_fm_n (by omega)]; exact p2_at _ _ _ _
  obtain ⟨sg520014, esg520014⟩ : ∃ z, z = oAd σ (5 * Gp + Gn) rr := ⟨_, rfl⟩
  have hE : REP v pa ra L K N T I520013 Q520008 J kx sg520014 := by rw [esg520014, eI520013, ev520011, sx520010]; exact hE.wa hp hn hl9 (by omega) (by omega) ⟨eb, hsl, ⟨hb0, hkb⟩, hrr⟩
  have hl9 : lvj sg520014 Gp Gn := by rw [esg520014]; exact hl9
  have hC : CT v L K N T I520013 Q520008 := by rw [eI520013]; exact hC.pi (by rw [(hE.rL hp hn hl9).2]; decide)
  have hD : va_D A (va_pl L (pF cy K N T I520013 Q520008 J)) := pD hDo
  exact W.vret hx hb hr (fun t ht hW => ⟨⟨(I520013, Q520008, J), rfl, by show REP v pa ra L K N T I520013 Q520008 J kx _; rw [← esg520014]; exact hE, by rw [ht]; exact hP, va_K.moved hW.alike hK, hD⟩, hS.F ht⟩) hS.2.2 dX4_append_25
set_option maxHeartbeats 4000000 in
set_option maxRecDepth 100000 in
/-- Replica.dropBefore, exactly -/
theorem g_X4_dropBefore (l : Launch) (dC : Nat → ClassId) (dI : Nat → Nat → Nat) (cy : Nat → ClassId) (v : Nat → Nat) (L : List Nat) (K N : Nat → Nat) (T : Nat → Nat → Nat) (I : Nat → Nat → Int32) (Q : Nat → Nat → Option Nat) (J : Nat → Nat → Int32) (sz : Nat) (pa ra : Nat → Nat) (kx : Nat → Prop) (σ : SG) (Gp Gn : Nat) (xo : Int32) (hE : REP v pa ra L K N T I Q J kx σ) (hp : Gp < 4) (hn : Gn < 5) (hl9 : lvj σ Gp Gn) (hN9 : LN (σ.2.1 (5 * Gp + Gn))) : Met l yX4_dropBefore wsX4_dropBefore ({ frames := 1, cells := 0, slots := 0, locals := 21 }) (va_Pc [.ref (ra (5 * Gp + Gn)), .int xo] (pW dC dI cy L (pF cy K N T I Q J) sz)) (va_Qv (fun d : (Nat → Nat → Int32) × (Nat → Nat → Option Nat) × (Nat → Nat → Int32) => REP v pa ra L K N T d.1 d.2.1 d.2.2 kx (oDb σ (5 * Gp + Gn) xo)) (fun (d : (Nat → Nat → Int32) × (Nat → Nat → Option Nat) × (Nat → Nat → Int32)) t => va_P (dC, dI) vwCl (va_pl L (pF cy K N T d.1 d.2.1 d.2.2)) t.heap ∧ va_K (dC, dI) vwCl (pTy cy) t ∧ va_D (va_A (va_pl L (pF cy K N T I Q J)) sz) (va_pl L (pF cy K N T d.1 d.2.1 d.2.2))) (va_A (va_pl L (pF cy K N T I Q J)) sz)) 0 0 (va_A (va_pl L (pF cy K N T I Q J)) sz) := by
  refine Met.ofW (cc := cX4_dropBefore) (maxL := 2) (ret := none) (by decide) rfl ?_
  intro p e s m args below meth c s₁ B hml hv
  obtain ⟨rfl, hsz, ⟨hP, hK, hN⟩, hD0⟩ := hv
  have hx := B.exec
  have hb := B.bytes
  have hr := B.returns
  have hts := atoms_spec (ws := wsX4_dropBefore) B.pre
  have hown : s.vm.findClass RX4 = some m.cls := findClass_of_methodNamed B.named
  have hlocks := B.notSynchronized
  have hi4 : ∀ w ∈ wsX40, w ∈ wsX4_dropBefore := by decide +kernel
  have hl := lv_entry ([.ref (ra (5 * Gp + Gn)), .int xo]) (n := 2) (Nat.le_of_ble_eq_true rfl)
  rw [lg_entry_eq]
  generalize (lg_sl ([.ref (ra (5 * Gp + Gn)), .int xo]) ++ List.replicate (2 - (lg_sl ([.ref (ra (5 * Gp + Gn)), .int xo])).length) Slot.unset).toArray = ls at hl ⊢
  have hl : lv_has ls 2 [(0, .ref (ra (5 * Gp + Gn))), (1, .int xo)] := hl
  subst hsz
  have hD := hD0.self (sz := s.heap.size)
  generalize hAe : va_A (va_pl L (pF cy K N T I Q J)) s.heap.size = A at hD ⊢
  have hA : ∀ q : Nat, s.heap.size ≤ q → A q := fun q h => by rw [← hAe]; exact Or.inr h
  have hS : va_S A s.heap s.heap [] := va_S.rf
  have hR : RS v I Q J I Q J := RS.rf
  have hn28 := hN.1
  have hn30 := hN.2.1
  have hn37 := hN.2.2.1
  have hC := hE.ct
  obtain ⟨n1g, n2g, n3g, n4g⟩ := id hN9
  refine lv_aload_n hx hb dX4_dropBefore_0 rfl (lv_at hl 0 rfl) ?_
  refine lv_aload_n hx hb dX4_dropBefore_1 rfl (lv_at hl 0 rfl) ?_
  obtain ⟨j520015, hj520015⟩ := pG_4 (cy := cy) (N := N) (T := T) (I := I) (Q := Q) (J := J) (hE.rL hp hn hl9).1 (hE.rL hp hn hl9).2
  refine va_get (D := (dC, dI)) (ci := 4) (v := .int (I (ra (5 * Gp + Gn)) 1)) (C := RX4) (T := TX4) (N := 7) hx hb hts hi4 hown hK hP j520015 hj520015 rfl 1 (by decide) (hts (.fieldLink RX4 17 "TallyLogs$Replica" "start" "I") (by decide +kernel)) (fun _ h9 => h9) rfl dX4_dropBefore_2 ?_
  refine lv_topi (fun x520016 ex520016 => ?_)
  have sx520016 : x520016 = σ.2.1 (5 * Gp + Gn) 1 := ex520016.trans (hE.g hp hn hl9 (by decide) (by decide) (by decide))
  have ux520016 := sx520016
  have tx520016 : x520016.toInt = (σ.2.1 (5 * Gp + Gn) 1).toInt := congrArg Int32.toInt sx520016
  refine lv_iload_n hx hb dX4_dropBefore_5 rfl (lv_at hl 1 rfl) ?_
  refine va_mmax hx hb (by rw [hml]; exact hl.1.symm) hown (hts (.methodLink RX4 46 Lib.Math.max.name) (by decide +kernel)) (hts (.static Lib.Math.max.name) (by decide +kernel)) (hts (.initialized "java/lang/Math") (by decide +kernel)) (hts _ (List.mem_of_getElem? (i := 5) rfl)) (Nat.le_of_ble_eq_true rfl) (Nat.le_of_ble_eq_true rfl) (Nat.le_of_ble_eq_true rfl) (Nat.le_of_ble_eq_true rfl) dX4_dropBefore_6 ?_
  refine lv_topi (fun z520017 ez520017 => ?_)
  have tz520017 : z520017.toInt = max x520016.toInt xo.toInt := xmax_t ez520017
  obtain ⟨j520018, hj520018⟩ := pG_4 (cy := cy) (N := N) (T := T) (I := I) (Q := Q) (J := J) (hE.rL hp hn hl9).1 (hE.rL hp hn hl9).2
  have hDo := hD
  refine va_put (D := (dC, dI)) (ci := 4) (v := .int z520017) (ty := .int) (C := RX4) (T := TX4) (N := 7) hx hb hts hi4 tyX4 tyX4_ok nmX4 hown hK hP hD hS j520018 hj520018 rfl 1 (by decide) (hts (.fieldLink RX4 17 "TallyLogs$Replica" "start" "I") (by decide +kernel)) (fun _ h9 => h9) rfl (by decide +kernel) rfl rfl (Nat.le_of_ble_eq_true rfl) dX4_dropBefore_9 (fun H locs hP hD hS => ?_)
  have hP := Eq.mp (congrArg (fun w => va_P (dC, dI) vwCl w H) (pP_4_1 (x := z520017) hDo (hE.rL hp hn hl9).1 (hE.rL hp hn hl9).2 hj520018)) hP
  obtain ⟨I520019, eI520019⟩ : ∃ z, z = p2 I (ra (5 * Gp + Gn)) 1 z520017 := ⟨_, rfl⟩
  rw [← eI520019] at hP
  have hR : RS v I520019 Q J I520019 Q J := RS.rf
  obtain ⟨sg520020, esg520020⟩ : ∃ z, z = sG σ (5 * Gp + Gn) 1 z520017 := ⟨_, rfl⟩
  have hE : REP v pa ra L K N T I520019 Q J kx sg520020 := by rw [esg520020, eI520019]; exact hE.ws hp hn hl9 (by decide) (by rw [tz520017]; omega) (fun o h1 h2 => ⟨by rw [sG_zbs] at h1; have := zb_le (σ := σ) (j := (5 * Gp + Gn)) (y := z520017) (by omega); omega, by rw [sG_ze (fun z => absurd z.2 (by decide))] at h2; exact h2⟩)
  have hl9 : lvj sg520020 Gp Gn := by rw [esg520020]; exact hl9
  have hC : CT v L K N T I520019 Q := by rw [eI520019]; exact hC.ps (by rw [tz520017]; omega)
  have hD : va_D A (va_pl L (pF cy K N T I520019 Q J)) := pD hDo
  refine lv_aload_n hx hb dX4_dropBefore_12 rfl (lv_at hl 0 rfl) ?_
  refine lv_aload_n hx hb dX4_dropBefore_13 rfl (lv_at hl 0 rfl) ?_
  obtain ⟨j520021, hj520021⟩ := pG_4 (cy := cy) (N := N) (T := T) (I := I520019) (Q := Q) (J := J) (hE.rL hp hn hl9).1 (hE.rL hp hn hl9).2
  refine va_get (D := (dC, dI)) (ci := 4) (v := .int (I520019 (ra (5 * Gp + Gn)) 4)) (C := RX4) (T := TX4) (N := 7) hx hb hts hi4 hown hK hP j520021 hj520021 rfl 4 (by decide) (hts (.fieldLink RX4 27 "TallyLogs$Replica" "flushed" "I") (by decide +kernel)) (fun _ h9 => h9) rfl dX4_dropBefore_14 ?_
  refine lv_topi (fun x520022 ex520022 => ?_)
  have sx520022 : x520022 = sg520020.2.1 (5 * Gp + Gn) 4 := ex520022.trans (hE.g hp hn hl9 (by decide) (by decide) (by decide))
  have ux520022 := sx520022
  have sx520022 : x520022 = σ.2.1 (5 * Gp + Gn) 4 := by rw [sx520022, esg520020, sG_o (by decide)]
  have tx520022 : x520022.toInt = (σ.2.1 (5 * Gp + Gn) 4).toInt := congrArg Int32.toInt sx520022
  refine lv_aload_n hx hb dX4_dropBefore_17 rfl (lv_at hl 0 rfl) ?_
  obtain ⟨j520023, hj520023⟩ := pG_4 (cy := cy) (N := N) (T := T) (I := I520019) (Q := Q) (J := J) (hE.rL hp hn hl9).1 (hE.rL hp hn hl9).2
  refine va_get (D := (dC, dI)) (ci := 4) (v := .int (I520019 (ra (5 * Gp + Gn)) 1)) (C := RX4) (T := TX4) (N := 7) hx hb hts hi4 hown hK hP j520023 hj520023 rfl 1 (by decide) (hts (.fieldLink RX4 17 "TallyLogs$Replica" "start" "I") (by decide +kernel)) (fun _ h9 => h9) rfl dX4_dropBefore_18 ?_
  refine lv_topi (fun x520024 ex520024 => ?_)
  have sx520024 : x520024 = sg520020.2.1 (5 * Gp + Gn) 1 := ex520024.trans (hE.g hp hn hl9 (by decide) (by decide) (by decide))
  have ux520024 := sx520024
  have sx520024 : x520024 = z520017 := by rw [sx520024, esg520020, sG_s]
  have tx520024 : x520024.toInt = z520017.toInt := congrArg Int32.toInt sx520024
  refine va_mmax hx hb (by rw [hml]; exact hl.1.symm) hown (hts (.methodLink RX4 46 Lib.Math.max.name) (by decide +kernel)) (hts (.static Lib.Math.max.name) (by decide +kernel)) (hts (.initialized "java/lang/Math") (by decide +kernel)) (hts _ (List.mem_of_getElem? (i := 5) rfl)) (Nat.le_of_ble_eq_true rfl) (Nat.le_of_ble_eq_true rfl) (Nat.le_of_ble_eq_true rfl) (Nat.le_of_ble_eq_true rfl) dX4_dropBefore_21 ?_
  refine lv_topi (fun z520025 ez520025 => ?_)
  have tz520025 : z520025.toInt = max x520022.toInt x520024.toInt := xmax_t ez520025
  obtain ⟨j520026, hj520026⟩ := pG_4 (cy := cy) (N := N) (T := T) (I := I520019) (Q := Q) (J := J) (hE.rL hp hn hl9).1 (hE.rL hp hn hl9).2
  have hDo := hD
  refine va_put (D := (dC, dI)) (ci := 4) (v := .int z520025) (ty := .int) (C := RX4) (T := TX4) (N := 7) hx hb hts hi4 tyX4 tyX4_ok nmX4 hown hK hP hD hS j520026 hj520026 rfl 4 (by decide) (hts (.fieldLink RX4 27 "TallyLogs$Replica" "flushed" "I") (by decide +kernel)) (fun _ h9 => h9) rfl (by decide +kernel) rfl rfl (Nat.le_of_ble_eq_true rfl) dX4_dropBefore_24 (fun H locs hP hD hS => ?_)
  have hP := Eq.mp (congrArg (fun w => va_P (dC, dI) vwCl w H) (pP_4_4 (x := z520025) hDo (hE.rL hp hn hl9).1 (hE.rL hp hn hl9).2 hj520026)) hP
  obtain ⟨I520027, eI520027⟩ : ∃ z, z = p2 I520019 (ra (5 * Gp + Gn)) 4 z520025 := ⟨_, rfl⟩
  rw [← eI520027] at hP
  have hR : RS v I520027 Q J I520027 Q J := RS.rf
  obtain ⟨sg520028, esg520028⟩ : ∃ z, z = sG sg520020 (5 * Gp + Gn) 4 z520025 := ⟨_, rfl⟩
  have hE : REP v pa ra L K N T I520027 Q J kx sg520028 := by rw [esg520028, eI520027]; exact hE.wr hp hn hl9 (by decide) (by decide) (fun _ _ z => z)
  have hl9 : lvj sg520028 Gp Gn := by rw [esg520028]; exact hl9
  have hC : CT v L K N T I520027 Q := by rw [eI520027]; exact hC.pi (by rw [(hE.rL hp hn hl9).2]; decide)
  have hD : va_D A (va_pl L (pF cy K N T I520027 Q J)) := pD hDo
  exact W.vret hx hb hr (fun t ht hW => ⟨⟨(I520027, Q, J), rfl, by show REP v pa ra L K N T I520027 Q J kx _; have h9 : oDb σ (5 * Gp + Gn) xo = sg520028 := (by rw [oDb, esg520028, esg520020, ez520025, sx520022, sx520024, ez520017, sx520016] <;> simp only [imx] <;> rfl); rw [h9]; exact hE, by rw [ht]; exact hP, va_K.moved hW.alike hK, hD⟩, hS.F ht⟩) hS.2.2 dX4_dropBefore_27
