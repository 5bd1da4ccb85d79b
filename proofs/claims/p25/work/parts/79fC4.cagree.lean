set_option maxHeartbeats 4000000 in
set_option maxRecDepth 100000 in
/-- Replica.loseUnflushed, exactly -/
theorem g_X4_loseUnflushed (l : Launch) (dC : Nat → ClassId) (dI : Nat → Nat → Nat) (cy : Nat → ClassId) (v : Nat → Nat) (L : List Nat) (K N : Nat → Nat) (T : Nat → Nat → Nat) (I : Nat → Nat → Int32) (Q : Nat → Nat → Option Nat) (J : Nat → Nat → Int32) (sz : Nat) (pa ra : Nat → Nat) (kx : Nat → Prop) (σ : SG) (Gp Gn : Nat) (xk : Int32) (hE : REP v pa ra L K N T I Q J kx σ) (hp : Gp < 4) (hn : Gn < 5) (hl9 : lvj σ Gp Gn) (hN9 : LN (σ.2.1 (5 * Gp + Gn))) (hk0 : 0 ≤ xk.toInt) (h4a : (σ.2.1 (5 * Gp + Gn) 1).toInt ≤ (σ.2.1 (5 * Gp + Gn) 4).toInt) (h4b : (σ.2.1 (5 * Gp + Gn) 4).toInt ≤ (σ.2.1 (5 * Gp + Gn) 2).toInt) : Met l yX4_loseUnflushed wsX4_loseUnflushed ({ frames := 1, cells := 0, slots := 0, locals := 21 }) (va_Pc [.ref (ra (5 * Gp + Gn)), .int xk] (pW dC dI cy L (pF cy K N T I Q J) sz)) (va_Qv (fun d : (Nat → Nat → Int32) × (Nat → Nat → Option Nat) × (Nat → Nat → Int32) => REP v pa ra L K N T d.1 d.2.1 d.2.2 kx (oLu σ (5 * Gp + Gn) xk)) (fun (d : (Nat → Nat → Int32) × (Nat → Nat → Option Nat) × (Nat → Nat → Int32)) t => va_P (dC, dI) vwCl (va_pl L (pF cy K N T d.1 d.2.1 d.2.2)) t.heap ∧ va_K (dC, dI) vwCl (pTy cy) t ∧ va_D (va_A (va_pl L (pF cy K N T I Q J)) sz) (va_pl L (pF cy K N T d.1 d.2.1 d.2.2))) (va_A (va_pl L (pF cy K N T I Q J)) sz)) 0 0 (va_A (va_pl L (pF cy K N T I Q J)) sz) := by
  refine Met.ofW (cc := cX4_loseUnflushed) (maxL := 2) (ret := none) (by decide) rfl ?_
  intro p e s m args below meth c s₁ B hml hv
  obtain ⟨rfl, hsz, ⟨hP, hK, hN⟩, hD0⟩ := hv
  have hx := B.exec
  have hb := B.bytes
  have hr := B.returns
  have hts := atoms_spec (ws := wsX4_loseUnflushed) B.pre
  have hown : s.vm.findClass RX4 = some m.cls := findClass_of_methodNamed B.named
  have hlocks := B.notSynchronized
  have hi4 : ∀ w ∈ wsX40, w ∈ wsX4_loseUnflushed := by decide +kernel
  have hl := lv_entry ([.ref (ra (5 * Gp + Gn)), .int xk]) (n := 2) (Nat.le_of_ble_eq_true rfl)
  rw [lg_entry_eq]
  generalize (lg_sl ([.ref (ra (5 * Gp + Gn)), .int xk]) ++ List.replicate (2 - (lg_sl ([.ref (ra (5 * Gp + Gn)), .int xk])).length) Slot.unset).toArray = ls at hl ⊢
  have hl : lv_has ls 2 [(0, .ref (ra (5 * Gp + Gn))), (1, .int xk)] := hl
  subst hsz
  have hD := hD0.self (sz := s.heap.size)
  generalize hAe : va_A (va_pl L (pF cy K N T I Q J)) s.heap.size = A at hD ⊢
  have hA : ∀ q : Nat, s.heap.size ≤ q → A q := fun q h => by rw [← hAe]; exact Or.inr h
  have hS : va_S A s.heap s.heap [] := va_S.rf
  have hR : RS v I Q J I Q J := RS.rf
  have hn28 := hN.1
  have hn30 := hN.2.1
  have hn37 := hN.2.2.1
  have hC := hE.ct
  obtain ⟨n1g, n2g, n3g, n4g⟩ := id hN9
  refine lv_aload_n hx hb dX4_loseUnflushed_0 rfl (lv_at hl 0 rfl) ?_
  refine lv_aload_n hx hb dX4_loseUnflushed_1 rfl (lv_at hl 0 rfl) ?_
  obtain ⟨j530001, hj530001⟩ := pG_4 (cy := cy) (N := N) (T := T) (I := I) (Q := Q) (J := J) (hE.rL hp hn hl9).1 (hE.rL hp hn hl9).2
  refine va_get (D := (dC, dI)) (ci := 4) (v := .int (I (ra (5 * Gp + Gn)) 4)) (C := RX4) (T := TX4) (N := 7) hx hb hts hi4 hown hK hP j530001 hj530001 rfl 4 (by decide) (hts (.fieldLink RX4 27 "TallyLogs$Replica" "flushed" "I") (by decide +kernel)) (fun _ h9 => h9) rfl dX4_loseUnflushed_2 ?_
  refine lv_topi (fun x530002 ex530002 => ?_)
  have sx530002 : x530002 = σ.2.1 (5 * Gp + Gn) 4 := ex530002.trans (hE.g hp hn hl9 (by decide) (by decide) (by decide))
  have ux530002 := sx530002
  have tx530002 : x530002.toInt = (σ.2.1 (5 * Gp + Gn) 4).toInt := congrArg Int32.toInt sx530002
  refine lv_iload_n hx hb dX4_loseUnflushed_5 rfl (lv_at hl 1 rfl) ?_
  refine lv_aload_n hx hb dX4_loseUnflushed_6 rfl (lv_at hl 0 rfl) ?_
  obtain ⟨j530003, hj530003⟩ := pG_4 (cy := cy) (N := N) (T := T) (I := I) (Q := Q) (J := J) (hE.rL hp hn hl9).1 (hE.rL hp hn hl9).2
  refine va_get (D := (dC, dI)) (ci := 4) (v := .int (I (ra (5 * Gp + Gn)) 2)) (C := RX4) (T := TX4) (N := 7) hx hb hts hi4 hown hK hP j530003 hj530003 rfl 2 (by decide) (hts (.fieldLink RX4 21 "TallyLogs$Replica" "end" "I") (by decide +kernel)) (fun _ h9 => h9) rfl dX4_loseUnflushed_7 ?_
  refine lv_topi (fun x530004 ex530004 => ?_)
  have sx530004 : x530004 = σ.2.1 (5 * Gp + Gn) 2 := ex530004.trans (hE.g hp hn hl9 (by decide) (by decide) (by decide))
  have ux530004 := sx530004
  have tx530004 : x530004.toInt = (σ.2.1 (5 * Gp + Gn) 2).toInt := congrArg Int32.toInt sx530004
  refine lv_aload_n hx hb dX4_loseUnflushed_10 rfl (lv_at hl 0 rfl) ?_
  obtain ⟨j530005, hj530005⟩ := pG_4 (cy := cy) (N := N) (T := T) (I := I) (Q := Q) (J := J) (hE.rL hp hn hl9).1 (hE.rL hp hn hl9).2
  refine va_get (D := (dC, dI)) (ci := 4) (v := .int (I (ra (5 * Gp + Gn)) 4)) (C := RX4) (T := TX4) (N := 7) hx hb hts hi4 hown hK hP j530005 hj530005 rfl 4 (by decide) (hts (.fieldLink RX4 27 "TallyLogs$Replica" "flushed" "I") (by decide +kernel)) (fun _ h9 => h9) rfl dX4_loseUnflushed_11 ?_
  refine lv_topi (fun x530006 ex530006 => ?_)
  have sx530006 : x530006 = σ.2.1 (5 * Gp + Gn) 4 := ex530006.trans (hE.g hp hn hl9 (by decide) (by decide) (by decide))
  have ux530006 := sx530006
  have tx530006 : x530006.toInt = (σ.2.1 (5 * Gp + Gn) 4).toInt := congrArg Int32.toInt sx530006
  refine lv_isub hx hb dX4_loseUnflushed_14 ?_
  refine lv_topi (fun v530007 ev530007 => ?_)
  have tv530007 : v530007.toInt = x530004.toInt - x530006.toInt := by rw [ev530007]; exact xsub (by omega) (by omega)
  refine va_mmin hx hb (by rw [hml]; exact hl.1.symm) hown (hts (.methodLink RX4 49 Lib.Math.min.name) (by decide +kernel)) (hts (.static Lib.Math.min.name) (by decide +kernel)) (hts (.initialized "java/lang/Math") (by decide +kernel)) (hts _ (List.mem_of_getElem? (i := 6) rfl)) (Nat.le_of_ble_eq_true rfl) (Nat.le_of_ble_eq_true rfl) (Nat.le_of_ble_eq_true rfl) (Nat.le_of_ble_eq_true rfl) dX4_loseUnflushed_15 ?_
  refine lv_topi (fun z530008 ez530008 => ?_)
  have tz530008 : z530008.toInt = min xk.toInt v530007.toInt := xmin_t ez530008
  refine lv_iadd hx hb dX4_loseUnflushed_18 ?_
  refine lv_topi (fun v530009 ev530009 => ?_)
  have tv530009 : v530009.toInt = x530002.toInt + z530008.toInt := by rw [ev530009]; exact xadd (by omega) (by omega)
  obtain ⟨j530010, hj530010⟩ := pG_4 (cy := cy) (N := N) (T := T) (I := I) (Q := Q) (J := J) (hE.rL hp hn hl9).1 (hE.rL hp hn hl9).2
  have hDo := hD
  refine va_put (D := (dC, dI)) (ci := 4) (v := .int v530009) (ty := .int) (C := RX4) (T := TX4) (N := 7) hx hb hts hi4 tyX4 tyX4_ok nmX4 hown hK hP hD hS j530010 hj530010 rfl 2 (by decide) (hts (.fieldLink RX4 21 "TallyLogs$Replica" "end" "I") (by decide +kernel)) (fun _ h9 => h9) rfl (by decide +kernel) rfl rfl (Nat.le_of_ble_eq_true rfl) dX4_loseUnflushed_19 (fun H locs hP hD hS => ?_)
  have hP := Eq.mp (congrArg (fun w => va_P (dC, dI) vwCl w H) (pP_4_2 (x := v530009) hDo (hE.rL hp hn hl9).1 (hE.rL hp hn hl9).2 hj530010)) hP
  obtain ⟨I530011, eI530011⟩ : ∃ z, z = p2 I (ra (5 * Gp + Gn)) 2 v530009 := ⟨_, rfl⟩
  rw [← eI530011] at hP
  have hR : RS v I530011 Q J I530011 Q J := RS.rf
  obtain ⟨sg530012, esg530012⟩ : ∃ z, z = sG σ (5 * Gp + Gn) 2 v530009 := ⟨_, rfl⟩
  have hE : REP v pa ra L K N T I530011 Q J kx sg530012 := by rw [esg530012, eI530011]; exact hE.ws hp hn hl9 (by decide) (by omega) (fun o h1 h2 => ⟨by rw [sG_zb (fun z => absurd z.2 (by decide))] at h1; exact h1, by rw [sG_zes] at h2; have := le_ze (σ := σ) (j := (5 * Gp + Gn)) (y := v530009) (by omega); omega⟩)
  have hl9 : lvj sg530012 Gp Gn := by rw [esg530012]; exact hl9
  have hC : CT v L K N T I530011 Q := by rw [eI530011]; exact hC.pi (by rw [(hE.rL hp hn hl9).2]; decide)
  have hD : va_D A (va_pl L (pF cy K N T I530011 Q J)) := pD hDo
  refine lv_aload_n hx hb dX4_loseUnflushed_22 rfl (lv_at hl 0 rfl) ?_
  refine lv_aload_n hx hb dX4_loseUnflushed_23 rfl (lv_at hl 0 rfl) ?_
  obtain ⟨j530013, hj530013⟩ := pG_4 (cy := cy) (N := N) (T := T) (I := I530011) (Q := Q) (J := J) (hE.rL hp hn hl9).1 (hE.rL hp hn hl9).2
  refine va_get (D := (dC, dI)) (ci := 4) (v := .int (I530011 (ra (5 * Gp + Gn)) 3)) (C := RX4) (T := TX4) (N := 7) hx hb hts hi4 hown hK hP j530013 hj530013 rfl 3 (by decide) (hts (.fieldLink RX4 24 "TallyLogs$Replica" "hw" "I") (by decide +kernel)) (fun _ h9 => h9) rfl dX4_loseUnflushed_24 ?_
  refine lv_topi (fun x530014 ex530014 => ?_)
  have sx530014 : x530014 = sg530012.2.1 (5 * Gp + Gn) 3 := ex530014.trans (hE.g hp hn hl9 (by decide) (by decide) (by decide))
  have ux530014 := sx530014
  have sx530014 : x530014 = σ.2.1 (5 * Gp + Gn) 3 := by rw [sx530014, esg530012, sG_o (by decide)]
  have tx530014 : x530014.toInt = (σ.2.1 (5 * Gp + Gn) 3).toInt := congrArg Int32.toInt sx530014
  refine lv_aload_n hx hb dX4_loseUnflushed_27 rfl (lv_at hl 0 rfl) ?_
  obtain ⟨j530015, hj530015⟩ := pG_4 (cy := cy) (N := N) (T := T) (I := I530011) (Q := Q) (J := J) (hE.rL hp hn hl9).1 (hE.rL hp hn hl9).2
  refine va_get (D := (dC, dI)) (ci := 4) (v := .int (I530011 (ra (5 * Gp + Gn)) 2)) (C := RX4) (T := TX4) (N := 7) hx hb hts hi4 hown hK hP j530015 hj530015 rfl 2 (by decide) (hts (.fieldLink RX4 21 "TallyLogs$Replica" "end" "I") (by decide +kernel)) (fun _ h9 => h9) rfl dX4_loseUnflushed_28 ?_
  refine lv_topi (fun x530016 ex530016 => ?_)
  have sx530016 : x530016 = sg530012.2.1 (5 * Gp + Gn) 2 := ex530016.trans (hE.g hp hn hl9 (by decide) (by decide) (by decide))
  have ux530016 := sx530016
  have sx530016 : x530016 = v530009 := by rw [sx530016, esg530012, sG_s]
  have tx530016 : x530016.toInt = v530009.toInt := congrArg Int32.toInt sx530016
  refine va_mmin hx hb (by rw [hml]; exact hl.1.symm) hown (hts (.methodLink RX4 49 Lib.Math.min.name) (by decide +kernel)) (hts (.static Lib.Math.min.name) (by decide +kernel)) (hts (.initialized "java/lang/Math") (by decide +kernel)) (hts _ (List.mem_of_getElem? (i := 6) rfl)) (Nat.le_of_ble_eq_true rfl) (Nat.le_of_ble_eq_true rfl) (Nat.le_of_ble_eq_true rfl) (Nat.le_of_ble_eq_true rfl) dX4_loseUnflushed_31 ?_
  refine lv_topi (fun z530017 ez530017 => ?_)
  have tz530017 : z530017.toInt = min x530014.toInt x530016.toInt := xmin_t ez530017
  obtain ⟨j530018, hj530018⟩ := pG_4 (cy := cy) (N := N) (T := T) (I := I530011) (Q := Q) (J := J) (hE.rL hp hn hl9).1 (hE.rL hp hn hl9).2
  have hDo := hD
  refine va_put (D := (dC, dI)) (ci := 4) (v := .int z530017) (ty := .int) (C := RX4) (T := TX4) (N := 7) hx hb hts hi4 tyX4 tyX4_ok nmX4 hown hK hP hD hS j530018 hj530018 rfl 3 (by decide) (hts (.fieldLink RX4 24 "TallyLogs$Replica" "hw" "I") (by decide +kernel)) (fun _ h9 => h9) rfl (by decide +kernel) rfl rfl (Nat.le_of_ble_eq_true rfl) dX4_loseUnflushed_34 (fun H locs hP hD hS => ?_)
  have hP := Eq.mp (congrArg (fun w => va_P (dC, dI) vwCl w H) (pP_4_3 (x := z530017) hDo (hE.rL hp hn hl9).1 (hE.rL hp hn hl9).2 hj530018)) hP
  obtain ⟨I530019, eI530019⟩ : ∃ z, z = p2 I530011 (ra (5 * Gp + Gn)) 3 z530017 := ⟨_, rfl⟩
  rw [← eI530019] at hP
  have hR : RS v I530019 Q J I530019 Q J := RS.rf
  obtain ⟨sg530020, esg530020⟩ : ∃ z, z = sG sg530012 (5 * Gp + Gn) 3 z530017 := ⟨_, rfl⟩
  have hE : REP v pa ra L K N T I530019 Q J kx sg530020 := by rw [esg530020, eI530019]; exact hE.wr hp hn hl9 (by decide) (by decide) (fun _ _ z => z)
  have hl9 : lvj sg530020 Gp Gn := by rw [esg530020]; exact hl9
  have hC : CT v L K N T I530019 Q := by rw [eI530019]; exact hC.pi (by rw [(hE.rL hp hn hl9).2]; decide)
  have hD : va_D A (va_pl L (pF cy K N T I530019 Q J)) := pD hDo
  exact W.vret hx hb hr (fun t ht hW => ⟨⟨(I530019, Q, J), rfl, by show REP v pa ra L K N T I530019 Q J kx _; have h9 : oLu σ (5 * Gp + Gn) xk = sg530020 := (by rw [oLu, esg530020, esg530012, ez530017, sx530014, sx530016, ev530009, sx530002, ez530008, ev530007, sx530004, sx530006] <;> simp only [imn] <;> rfl); rw [h9]; exact hE, by rw [ht]; exact hP, va_K.moved hW.alike hK, hD⟩, hS.F ht⟩) hS.2.2 dX4_loseUnflushed_37
set_option maxHeartbeats 4000000 in
set_option maxRecDepth 100000 in
/-- Replica.agreeWith, exactly -/
theorem g_X4_agreeWith (l : Launch) (dC : Nat → ClassId) (dI : Nat → Nat → Nat) (cy : Nat → ClassId) (v : Nat → Nat) (L : List Nat) (K N : Nat → Nat) (T : Nat → Nat → Nat) (I : Nat → Nat → Int32) (Q : Nat → Nat → Option Nat) (J : Nat → Nat → Int32) (sz : Nat) (pa ra : Nat → Nat) (kx : Nat → Prop) (σ : SG) (Gp Gn Gm : Nat) (hE : REP v pa ra L K N T I Q J kx σ) (hp : Gp < 4) (hn : Gn < 5) (hl9 : lvj σ Gp Gn) (hN9 : LN (σ.2.1 (5 * Gp + Gn))) (hm : Gm < 5) (hlm : lvj σ Gp Gm) (hNm : LN (σ.2.1 (5 * Gp + Gm))) (hne : ¬ Gm = Gn) : Met l yX4_agreeWith wsX4_agreeWith ({ frames := 3, cells := 0, slots := 0, locals := 67 }) (va_Pc [.ref (ra (5 * Gp + Gn)), .ref (ra (5 * Gp + Gm))] (pW dC dI cy L (pF cy K N T I Q J) sz)) (va_Qv (fun d : (Nat → Nat → Int32) × (Nat → Nat → Option Nat) × (Nat → Nat → Int32) => REP v pa ra L K N T d.1 d.2.1 d.2.2 kx (oA2 (oA1 σ (5 * Gp + Gn) (5 * Gp + Gm)) (5 * Gp + Gn) (5 * Gp + Gm))) (fun (d : (Nat → Nat → Int32) × (Nat → Nat → Option Nat) × (Nat → Nat → Int32)) t => va_P (dC, dI) vwCl (va_pl L (pF cy K N T d.1 d.2.1 d.2.2)) t.heap ∧ va_K (dC, dI) vwCl (pTy cy) t ∧ va_D (va_A (va_pl L (pF cy K N T I Q J)) sz) (va_pl L (pF cy K N T d.1 d.2.1 d.2.2))) (va_A (va_pl L (pF cy K N T I Q J)) sz)) 0 0 (va_A (va_pl L (pF cy K N T I Q J)) sz) := by
  refine Met.ofW (cc := cX4_agreeWith) (maxL := 3) (ret := none) (by decide) rfl ?_
  intro p e s m args below meth c s₁ B hml hv
  obtain ⟨rfl, hsz, ⟨hP, hK, hN⟩, hD0⟩ := hv
  have hx := B.exec
  have hb := B.bytes
  have hr := B.returns
  have hts := atoms_spec (ws := wsX4_agreeWith) B.pre
  have hown : s.vm.findClass RX4 = some m.cls := findClass_of_methodNamed B.named
  have hlocks := B.notSynchronized
  have hi4 : ∀ w ∈ wsX40, w ∈ wsX4_agreeWith := by decide +kernel
  have hl := lv_entry ([.ref (ra (5 * Gp + Gn)), .ref (ra (5 * Gp + Gm))]) (n := 3) (Nat.le_of_ble_eq_true rfl)
  rw [lg_entry_eq]
  generalize (lg_sl ([.ref (ra (5 * Gp + Gn)), .ref (ra (5 * Gp + Gm))]) ++ List.replicate (3 - (lg_sl ([.ref (ra (5 * Gp + Gn)), .ref (ra (5 * Gp + Gm))])).length) Slot.unset).toArray = ls at hl ⊢
  have hl : lv_has ls 3 [(0, .ref (ra (5 * Gp + Gn))), (1, .ref (ra (5 * Gp + Gm)))] := hl
  subst hsz
  have hD := hD0.self (sz := s.heap.size)
  generalize hAe : va_A (va_pl L (pF cy K N T I Q J)) s.heap.size = A at hD ⊢
  have hA : ∀ q : Nat, s.heap.size ≤ q → A q := fun q h => by rw [← hAe]; exact Or.inr h
  have hS : va_S A s.heap s.heap [] := va_S.rf
  have hR : RS v I Q J I Q J := RS.rf
  have hn28 := hN.1
  have hn30 := hN.2.1
  have hn37 := hN.2.2.1
  have hC := hE.ct
  obtain ⟨n1g, n2g, n3g, n4g⟩ := id hN9
  obtain ⟨n1m, n2m, n3m, n4m⟩ := id hNm
  refine lv_aload_n hx hb dX4_agreeWith_0 rfl (lv_at hl 0 rfl) ?_
  obtain ⟨j530021, hj530021⟩ := pG_4 (cy := cy) (N := N) (T := T) (I := I) (Q := Q) (J := J) (hE.rL hp hn hl9).1 (hE.rL hp hn hl9).2
  refine va_get (D := (dC, dI)) (ci := 4) (v := .int (I (ra (5 * Gp + Gn)) 2)) (C := RX4) (T := TX4) (N := 7) hx hb hts hi4 hown hK hP j530021 hj530021 rfl 2 (by decide) (hts (.fieldLink RX4 21 "TallyLogs$Replica" "end" "I") (by decide +kernel)) (fun _ h9 => h9) rfl dX4_agreeWith_1 ?_
  refine lv_topi (fun x530022 ex530022 => ?_)
  have sx530022 : x530022 = σ.2.1 (5 * Gp + Gn) 2 := ex530022.trans (hE.g hp hn hl9 (by decide) (by decide) (by decide))
  have ux530022 := sx530022
  have tx530022 : x530022.toInt = (σ.2.1 (5 * Gp + Gn) 2).toInt := congrArg Int32.toInt sx530022
  refine lv_aload_n hx hb dX4_agreeWith_4 rfl (lv_at hl 1 rfl) ?_
  obtain ⟨j530023, hj530023⟩ := pG_4 (cy := cy) (N := N) (T := T) (I := I) (Q := Q) (J := J) (hE.rL hp hm hlm).1 (hE.rL hp hm hlm).2
  refine va_get (D := (dC, dI)) (ci := 4) (v := .int (I (ra (5 * Gp + Gm)) 1)) (C := RX4) (T := TX4) (N := 7) hx hb hts hi4 hown hK hP j530023 hj530023 rfl 1 (by decide) (hts (.fieldLink RX4 17 "TallyLogs$Replica" "start" "I") (by decide +kernel)) (fun _ h9 => h9) rfl dX4_agreeWith_5 ?_
  refine lv_topi (fun x530024 ex530024 => ?_)
  have sx530024 : x530024 = σ.2.1 (5 * Gp + Gm) 1 := ex530024.trans (hE.g hp hm hlm (by decide) (by decide) (by decide))
  have ux530024 := sx530024
  have tx530024 : x530024.toInt = (σ.2.1 (5 * Gp + Gm) 1).toInt := congrArg Int32.toInt sx530024
  refine lv_icmp_ge (tgt := 27) hx hb dX4_agreeWith_8 (by decide) (fun c530025 => ?_) (fun c530025 => ?_)
  · have kc530025 : x530024.toInt ≤ x530022.toInt := by have h9 := c530025; rw [xk_le] at h9; exact h9
    refine lv_aload_n hx hb dX4_agreeWith_27 rfl (lv_at hl 0 rfl) ?_
    obtain ⟨j530027, hj530027⟩ := pG_4 (cy := cy) (N := N) (T := T) (I := I) (Q := Q) (J := J) (hE.rL hp hn hl9).1 (hE.rL hp hn hl9).2
    refine va_get (D := (dC, dI)) (ci := 4) (v := .int (I (ra (5 * Gp + Gn)) 1)) (C := RX4) (T := TX4) (N := 7) hx hb hts hi4 hown hK hP j530027 hj530027 rfl 1 (by decide) (hts (.fieldLink RX4 17 "TallyLogs$Replica" "start" "I") (by decide +kernel)) (fun _ h9 => h9) rfl dX4_agreeWith_28 ?_
    refine lv_topi (fun x530028 ex530028 => ?_)
    have sx530028 : x530028 = σ.2.1 (5 * Gp + Gn) 1 := ex530028.trans (hE.g hp hn hl9 (by decide) (by decide) (by decide))
    have ux530028 := sx530028
    have tx530028 : x530028.toInt = (σ.2.1 (5 * Gp + Gn) 1).toInt := congrArg Int32.toInt sx530028
    refine lv_aload_n hx hb dX4_agreeWith_31 rfl (lv_at hl 1 rfl) ?_
    obtain ⟨j530029, hj530029⟩ := pG_4 (cy := cy) (N := N) (T := T) (I := I) (Q := Q) (J := J) (hE.rL hp hm hlm).1 (hE.rL hp hm hlm).2
    refine va_get (D := (dC, dI)) (ci := 4) (v := .int (I (ra (5 * Gp + Gm)) 1)) (C := RX4) (T := TX4) (N := 7) hx hb hts hi4 hown hK hP j530029 hj530029 rfl 1 (by decide) (hts (.fieldLink RX4 17 "TallyLogs$Replica" "start" "I") (by decide +kernel)) (fun _ h9 => h9) rfl dX4_agreeWith_32 ?_
    refine lv_topi (fun x530030 ex530030 => ?_)
    have sx530030 : x530030 = σ.2.1 (5 * Gp + Gm) 1 := ex530030.trans (hE.g hp hm hlm (by decide) (by decide) (by decide))
    have ux530030 := sx530030
    have tx530030 : x530030.toInt = (σ.2.1 (5 * Gp + Gm) 1).toInt := congrArg Int32.toInt sx530030
    refine va_mmax hx hb (by rw [hml]; exact hl.1.symm) hown (hts (.methodLink RX4 46 Lib.Math.max.name) (by decide +kernel)) (hts (.static Lib.Math.max.name) (by decide +kernel)) (hts (.initialized "java/lang/Math") (by decide +kernel)) (hts _ (List.mem_of_getElem? (i := 6) rfl)) (Nat.le_of_ble_eq_true rfl) (Nat.le_of_ble_eq_true rfl) (Nat.le_of_ble_eq_true rfl) (Nat.le_of_ble_eq_true rfl) dX4_agreeWith_35 ?_
    refine lv_topi (fun z530031 ez530031 => ?_)
    have tz530031 : z530031.toInt = max x530028.toInt x530030.toInt := xmax_t ez530031
    refine lv_istore_n (lv' := [(2, .int z530031), (0, .ref (ra (5 * Gp + Gn))), (1, .ref (ra (5 * Gp + Gm)))]) hx hb dX4_agreeWith_38 rfl hl (by decide) rfl (fun ls hl => ?_)
    refine wq_gen (fun Qz hQz => ?_)
    have hLP530032 : ∀ (n : Nat) (y530033 : Int32) (ls : Array Slot), ((σ.2.1 (5 * Gp + Gn) 2).toInt - y530033.toInt).toNat < n → 0 ≤ y530033.toInt → ((σ.2.1 (5 * Gp + Gn) 1).toInt ≤ y530033.toInt ∧ (σ.2.1 (5 * Gp + Gm) 1).toInt ≤ y530033.toInt ∧ y530033.toInt ≤ (σ.2.1 (5 * Gp + Gn) 2).toInt ∧ fW (pAg σ (5 * Gp + Gn) (5 * Gp + Gm)) (ze σ (5 * Gp + Gn) - y530033.toNatClampNeg) y530033.toNatClampNeg = oPt σ (5 * Gp + Gn) (5 * Gp + Gm)) → lv_has ls 3 [(2, .int y530033), (0, .ref (ra (5 * Gp + Gn))), (1, .ref (ra (5 * Gp + Gm)))] → W p l e (headSpec wsX4_agreeWith ({ frames := 3, cells := 0, slots := 0, locals := 67 })).room s m ([.ref (ra (5 * Gp + Gn)), .ref (ra (5 * Gp + Gm))] : List Value).toArray below meth c s.heap [] 0 0 Qz (F0 m 39 ls []) := by
      intro n
      induction n with
      | zero => intro y530033 ls hms; exact absurd hms (Nat.not_lt_zero _)
      | succ n ih530032 =>
        intro y530033 ls hms hnn530032 hiv530032 hl
        obtain ⟨hiw, hiw2, hiw3, _⟩ := id hiv530032
        refine lv_iload_n hx hb dX4_agreeWith_39 rfl (lv_at hl 0 rfl) ?_
        refine lv_aload_n hx hb dX4_agreeWith_40 rfl (lv_at hl 1 rfl) ?_
        obtain ⟨j530034, hj530034⟩ := pG_4 (cy := cy) (N := N) (T := T) (I := I) (Q := Q) (J := J) (hE.rL hp hn hl9).1 (hE.rL hp hn hl9).2
        refine va_get (D := (dC, dI)) (ci := 4) (v := .int (I (ra (5 * Gp + Gn)) 2)) (C := RX4) (T := TX4) (N := 7) hx hb hts hi4 hown hK hP j530034 hj530034 rfl 2 (by decide) (hts (.fieldLink RX4 21 "TallyLogs$Replica" "end" "I") (by decide +kernel)) (fun _ h9 => h9) rfl dX4_agreeWith_41 ?_
        refine lv_topi (fun x530035 ex530035 => ?_)
        have sx530035 : x530035 = σ.2.1 (5 * Gp + Gn) 2 := ex530035.trans (hE.g hp hn hl9 (by decide) (by decide) (by decide))
        have ux530035 := sx530035
        have tx530035 : x530035.toInt = (σ.2.1 (5 * Gp + Gn) 2).toInt := congrArg Int32.toInt sx530035
        refine lv_icmp_ge (tgt := 62) hx hb dX4_agreeWith_44 (by decide) (fun c530036 => ?_) (fun c530036 => ?_)
        · have kc530036 : x530035.toInt ≤ y530033.toInt := by have h9 := c530036; rw [xk_le] at h9; exact h9
          have hpt : oPt σ (5 * Gp + Gn) (5 * Gp + Gm) = y530033.toNatClampNeg := by rw [← hiv530032.2.2.2, fW_end (ze_le (by omega))]
          have hpn : nI (oPt σ (5 * Gp + Gn) (5 * Gp + Gm)) = y530033 := by rw [hpt]; exact (xcl9 (by omega)).symm
          refine lv_aload_n hx hb dX4_agreeWith_62 rfl (lv_at hl 1 rfl) ?_
          refine lv_iload_n hx hb dX4_agreeWith_63 rfl (lv_at hl 0 rfl) ?_
          obtain ⟨j530037, hj530037⟩ := pG_4 (cy := cy) (N := N) (T := T) (I := I) (Q := Q) (J := J) (hE.rL hp hn hl9).1 (hE.rL hp hn hl9).2
          have hDo := hD
          refine va_put (D := (dC, dI)) (ci := 4) (v := .int y530033) (ty := .int) (C := RX4) (T := TX4) (N := 7) hx hb hts hi4 tyX4 tyX4_ok nmX4 hown hK hP hD hS j530037 hj530037 rfl 2 (by decide) (hts (.fieldLink RX4 21 "TallyLogs$Replica" "end" "I") (by decide +kernel)) (fun _ h9 => h9) rfl (by decide +kernel) rfl rfl (Nat.le_of_ble_eq_true rfl) dX4_agreeWith_64 (fun H locs hP hD hS => ?_)
          have hP := Eq.mp (congrArg (fun w => va_P (dC, dI) vwCl w H) (pP_4_2 (x := y530033) hDo (hE.rL hp hn hl9).1 (hE.rL hp hn hl9).2 hj530037)) hP
          obtain ⟨I530038, eI530038⟩ : ∃ z, z = p2 I (ra (5 * Gp + Gn)) 2 y530033 := ⟨_, rfl⟩
          rw [← eI530038] at hP
          have hR : RS v I530038 Q J I530038 Q J := RS.rf
          obtain ⟨sg530039, esg530039⟩ : ∃ z, z = sG σ (5 * Gp + Gn) 2 y530033 := ⟨_, rfl⟩
          have hE : REP v pa ra L K N T I530038 Q J kx sg530039 := by rw [esg530039, eI530038]; exact hE.ws hp hn hl9 (by decide) (by omega) (fun o h1 h2 => ⟨by rw [sG_zb (fun z => absurd z.2 (by decide))] at h1; exact h1, by rw [sG_zes] at h2; have := le_ze (σ := σ) (j := (5 * Gp + Gn)) (y := y530033) (by omega); omega⟩)
          have hl9 : lvj sg530039 Gp Gn := by rw [esg530039]; exact hl9
          have hlm : lvj sg530039 Gp Gm := by rw [esg530039]; exact hlm
          have hC : CT v L K N T I530038 Q := by rw [eI530038]; exact hC.pi (by rw [(hE.rL hp hn hl9).2]; decide)
          have hD : va_D A (va_pl L (pF cy K N T I530038 Q J)) := pD hDo
          refine lv_aload_n hx hb dX4_agreeWith_67 rfl (lv_at hl 1 rfl) ?_
          refine lv_aload_n hx hb dX4_agreeWith_68 rfl (lv_at hl 1 rfl) ?_
          obtain ⟨j530040, hj530040⟩ := pG_4 (cy := cy) (N := N) (T := T) (I := I530038) (Q := Q) (J := J) (hE.rL hp hn hl9).1 (hE.rL hp hn hl9).2
          refine va_get (D := (dC, dI)) (ci := 4) (v := .int (I530038 (ra (5 * Gp + Gn)) 4)) (C := RX4) (T := TX4) (N := 7) hx hb hts hi4 hown hK hP j530040 hj530040 rfl 4 (by decide) (hts (.fieldLink RX4 27 "TallyLogs$Replica" "flushed" "I") (by decide +kernel)) (fun _ h9 => h9) rfl dX4_agreeWith_69 ?_
          refine lv_topi (fun x530041 ex530041 => ?_)
          have sx530041 : x530041 = sg530039.2.1 (5 * Gp + Gn) 4 := ex530041.trans (hE.g hp hn hl9 (by decide) (by decide) (by decide))
          have ux530041 := sx530041
          have sx530041 : x530041 = σ.2.1 (5 * Gp + Gn) 4 := by rw [sx530041, esg530039, sG_o (by decide)]
          have tx530041 : x530041.toInt = (σ.2.1 (5 * Gp + Gn) 4).toInt := congrArg Int32.toInt sx530041
          refine lv_aload_n hx hb dX4_agreeWith_72 rfl (lv_at hl 1 rfl) ?_
          obtain ⟨j530042, hj530042⟩ := pG_4 (cy := cy) (N := N) (T := T) (I := I530038) (Q := Q) (J := J) (hE.rL hp hn hl9).1 (hE.rL hp hn hl9).2
          refine va_get (D := (dC, dI)) (ci := 4) (v := .int (I530038 (ra (5 * Gp + Gn)) 2)) (C := RX4) (T := TX4) (N := 7) hx hb hts hi4 hown hK hP j530042 hj530042 rfl 2 (by decide) (hts (.fieldLink RX4 21 "TallyLogs$Replica" "end" "I") (by decide +kernel)) (fun _ h9 => h9) rfl dX4_agreeWith_73 ?_
          refine lv_topi (fun x530043 ex530043 => ?_)
          have sx530043 : x530043 = sg530039.2.1 (5 * Gp + Gn) 2 := ex530043.trans (hE.g hp hn hl9 (by decide) (by decide) (by decide))
          have ux530043 := sx530043
          have sx530043 : x530043 = y530033 := by rw [sx530043, esg530039, sG_s]
          have tx530043 : x530043.toInt = y530033.toInt := congrArg Int32.toInt sx530043
          refine va_mmin hx hb (by rw [hml]; exact hl.1.symm) hown (hts (.methodLink RX4 49 Lib.Math.min.name) (by decide +kernel)) (hts (.static Lib.Math.min.name) (by decide +kernel)) (hts (.initialized "java/lang/Math") (by decide +kernel)) (hts _ (List.mem_of_getElem? (i := 10) rfl)) (Nat.le_of_ble_eq_true rfl) (Nat.le_of_ble_eq_true rfl) (Nat.le_of_ble_eq_true rfl) (Nat.le_of_ble_eq_true rfl) dX4_agreeWith_76 ?_
          refine lv_topi (fun z530044 ez530044 => ?_)
          have tz530044 : z530044.toInt = min x530041.toInt x530043.toInt := xmin_t ez530044
          obtain ⟨j530045, hj530045⟩ := pG_4 (cy := cy) (N := N) (T := T) (I := I530038) (Q := Q) (J := J) (hE.rL hp hn hl9).1 (hE.rL hp hn hl9).2
          have hDo := hD
          refine va_put (D := (dC, dI)) (ci := 4) (v := .int z530044) (ty := .int) (C := RX4) (T := TX4) (N := 7) hx hb hts hi4 tyX4 tyX4_ok nmX4 hown hK hP hD hS j530045 hj530045 rfl 4 (by decide) (hts (.fieldLink RX4 27 "TallyLogs$Replica" "flushed" "I") (by decide +kernel)) (fun _ h9 => h9) rfl (by decide +kernel) rfl rfl (Nat.le_of_ble_eq_true rfl) dX4_agreeWith_79 (fun H locs hP hD hS => ?_)
          have hP := Eq.mp (congrArg (fun w => va_P (dC, dI) vwCl w H) (pP_4_4 (x := z530044) hDo (hE.rL hp hn hl9).1 (hE.rL hp hn hl9).2 hj530045)) hP
          obtain ⟨I530046, eI530046⟩ : ∃ z, z = p2 I530038 (ra (5 * Gp + Gn)) 4 z530044 := ⟨_, rfl⟩
          rw [← eI530046] at hP
          have hR : RS v I530046 Q J I530046 Q J := RS.rf
          obtain ⟨sg530047, esg530047⟩ : ∃ z, z = sG sg530039 (5 * Gp + Gn) 4 z530044 := ⟨_, rfl⟩
          have hE : REP v pa ra L K N T I530046 Q J kx sg530047 := by rw [esg530047, eI530046]; exact hE.wr hp hn hl9 (by decide) (by decide) (fun _ _ z => z)
          have hl9 : lvj sg530047 Gp Gn := by rw [esg530047]; exact hl9
          have hlm : lvj sg530047 Gp Gm := by rw [esg530047]; exact hlm
          have hC : CT v L K N T I530046 Q := by rw [eI530046]; exact hC.pi (by rw [(hE.rL hp hn hl9).2]; decide)
          have hD : va_D A (va_pl L (pF cy K N T I530046 Q J)) := pD hDo
          rw [hQz]
          exact W.vret hx hb hr (fun t ht hW => ⟨⟨(I530046, Q, J), rfl, by show REP v pa ra L K N T I530046 Q J kx _; have ha : oA1 σ (5 * Gp + Gn) (5 * Gp + Gm) = σ := (by rw [oA1, if_pos (by have k9 := c530025; simp only [sx530022, sx530024] at k9; exact k9)]); have h9 : oA2 (oA1 σ (5 * Gp + Gn) (5 * Gp + Gm)) (5 * Gp + Gn) (5 * Gp + Gm) = sg530047 := (by rw [ha, oA2, hpn, esg530047, ez530044, ux530041, sx530043, esg530039, sG_o (f := 2) (g := 4) (by decide)] <;> simp only [imn] <;> rfl); rw [h9]; exact hE, by rw [ht]; exact hP, va_K.moved hW.alike hK, hD⟩, hS.F ht⟩) hS.2.2 dX4_agreeWith_82
        · have kc530036 : ¬ (x530035.toInt ≤ y530033.toInt) := by have h9 := c530036; rw [xk_le] at h9; exact h9
          refine lv_aload_n hx hb dX4_agreeWith_47 rfl (lv_at hl 1 rfl) ?_
          refine lv_iload_n hx hb dX4_agreeWith_48 rfl (lv_at hl 0 rfl) ?_
          refine lv_aload_n hx hb dX4_agreeWith_49 rfl (lv_at hl 2 rfl) ?_
          obtain ⟨j530049, hj530049⟩ := pG_4 (cy := cy) (N := N) (T := T) (I := I) (Q := Q) (J := J) (hE.rL hp hn hl9).1 (hE.rL hp hn hl9).2
          refine vp_callSi (W.runV (As := [.int y530033, .ref (ra (5 * Gp + Gm))]) (rest := []) ⟨hx, hb, hml, hown, hts⟩ (g_X4_hasSameEpoch l dC dI cy v L K N T I Q J pa ra kx σ Gp Gn Gm y530033 hE hp hn hl9 hN9 hm hlm hNm) (cwV 2 hts gX4_agreeWith_X4_hasSameEpoch rfl rfl rfl (by decide +kernel) ⟨Nat.le_of_ble_eq_true rfl, Nat.le_of_ble_eq_true rfl⟩) ⟨pb_blind, va_recv hK hP (ci := 4) (q0 := j530049) rfl hj530049, fun U hU hW => ⟨rfl, pb_pre hP hK hN hU hW⟩⟩ rfl rfl hl.1 rfl (lv_room (Nat.le_of_ble_eq_true rfl)) dX4_agreeWith_50 ⟨Nat.le_of_ble_eq_true rfl, Nat.le_of_ble_eq_true rfl⟩) (fun r530048 hr530048 => ?_)
          refine lv_if_eq (tgt := 62) hx hb dX4_agreeWith_53 (by decide) (fun c530050 => ?_) (fun c530050 => ?_)
          · have kc530050 : r530048.toInt = 0 := by have h9 := c530050; rw [xk_eq, xk_0] at h9; exact h9
            have hpt : oPt σ (5 * Gp + Gn) (5 * Gp + Gm) = y530033.toNatClampNeg := by rw [← hiv530032.2.2.2, fW_stop (fun q => ite1_0 hr530048 c530050 ⟨⟨⟨by omega, by omega⟩, by omega, of_lt_ze (by omega) (of_decide_eq_true q).1⟩, (of_decide_eq_true q).2⟩)]
            have hpn : nI (oPt σ (5 * Gp + Gn) (5 * Gp + Gm)) = y530033 := by rw [hpt]; exact (xcl9 (by omega)).symm
            refine lv_aload_n hx hb dX4_agreeWith_62 rfl (lv_at hl 1 rfl) ?_
            refine lv_iload_n hx hb dX4_agreeWith_63 rfl (lv_at hl 0 rfl) ?_
            obtain ⟨j530051, hj530051⟩ := pG_4 (cy := cy) (N := N) (T := T) (I := I) (Q := Q) (J := J) (hE.rL hp hn hl9).1 (hE.rL hp hn hl9).2
            have hDo := hD
            refine va_put (D := (dC, dI)) (ci := 4) (v := .int y530033) (ty := .int) (C := RX4) (T := TX4) (N := 7) hx hb hts hi4 tyX4 tyX4_ok nmX4 hown hK hP hD hS j530051 hj530051 rfl 2 (by decide) (hts (.fieldLink RX4 21 "TallyLogs$Replica" "end" "I") (by decide +kernel)) (fun _ h9 => h9) rfl (by decide +kernel) rfl rfl (Nat.le_of_ble_eq_true rfl) dX4_agreeWith_64 (fun H locs hP hD hS => ?_)
            have hP := Eq.mp (congrArg (fun w => va_P (dC, dI) vwCl w H) (pP_4_2 (x := y530033) hDo (hE.rL hp hn hl9).1 (hE.rL hp hn hl9).2 hj530051)) hP
            obtain ⟨I530052, eI530052⟩ : ∃ z, z = p2 I (ra (5 * Gp + Gn)) 2 y530033 := ⟨_, rfl⟩
            rw [← eI530052] at hP
            have hR : RS v I530052 Q J I530052 Q J := RS.rf
            obtain ⟨sg530053, esg530053⟩ : ∃ z, z = sG σ (5 * Gp + Gn) 2 y530033 := ⟨_, rfl⟩
            have hE : REP v pa ra L K N T I530052 Q J kx sg530053 := by rw [esg530053, eI530052]; exact hE.ws hp hn hl9 (by decide) (by omega) (fun o h1 h2 => ⟨by rw [sG_zb (fun z => absurd z.2 (by decide))] at h1; exact h1, by rw [sG_zes] at h2; have := le_ze (σ := σ) (j := (5 * Gp + Gn)) (y := y530033) (by omega); omega⟩)
            have hl9 : lvj sg530053 Gp Gn := by rw [esg530053]; exact hl9
            have hlm : lvj sg530053 Gp Gm := by rw [esg530053]; exact hlm
            have hC : CT v L K N T I530052 Q := by rw [eI530052]; exact hC.pi (by rw [(hE.rL hp hn hl9).2]; decide)
            have hD : va_D A (va_pl L (pF cy K N T I530052 Q J)) := pD hDo
            refine lv_aload_n hx hb dX4_agreeWith_67 rfl (lv_at hl 1 rfl) ?_
            refine lv_aload_n hx hb dX4_agreeWith_68 rfl (lv_at hl 1 rfl) ?_
            obtain ⟨j530054, hj530054⟩ := pG_4 (cy := cy) (N := N) (T := T) (I := I530052) (Q := Q) (J := J) (hE.rL hp hn hl9).1 (hE.rL hp hn hl9).2
            refine va_get (D := (dC, dI)) (ci := 4) (v := .int (I530052 (ra (5 * Gp + Gn)) 4)) (C := RX4) (T := TX4) (N := 7) hx hb hts hi4 hown hK hP j530054 hj530054 rfl 4 (by decide) (hts (.fieldLink RX4 27 "TallyLogs$Replica" "flushed" "I") (by decide +kernel)) (fun _ h9 => h9) rfl dX4_agreeWith_69 ?_
            refine lv_topi (fun x530055 ex530055 => ?_)
            have sx530055 : x530055 = sg530053.2.1 (5 * Gp + Gn) 4 := ex530055.trans (hE.g hp hn hl9 (by decide) (by decide) (by decide))
            have ux530055 := sx530055
            have sx530055 : x530055 = σ.2.1 (5 * Gp + Gn) 4 := by rw [sx530055, esg530053, sG_o (by decide)]
            have tx530055 : x530055.toInt = (σ.2.1 (5 * Gp + Gn) 4).toInt := congrArg Int32.toInt sx530055
            refine lv_aload_n hx hb dX4_agreeWith_72 rfl (lv_at hl 1 rfl) ?_
            obtain ⟨j530056, hj530056⟩ := pG_4 (cy := cy) (N := N) (T := T) (I := I530052) (Q := Q) (J := J) (hE.rL hp hn hl9).1 (hE.rL hp hn hl9).2
            refine va_get (D := (dC, dI)) (ci := 4) (v := .int (I530052 (ra (5 * Gp + Gn)) 2)) (C := RX4) (T := TX4) (N := 7) hx hb hts hi4 hown hK hP j530056 hj530056 rfl 2 (by decide) (hts (.fieldLink RX4 21 "TallyLogs$Replica" "end" "I") (by decide +kernel)) (fun _ h9 => h9) rfl dX4_agreeWith_73 ?_
            refine lv_topi (fun x530057 ex530057 => ?_)
            have sx530057 : x530057 = sg530053.2.1 (5 * Gp + Gn) 2 := ex530057.trans (hE.g hp hn hl9 (by decide) (by decide) (by decide))
            have ux530057 := sx530057
            have sx530057 : x530057 = y530033 := by rw [sx530057, esg530053, sG_s]
            have tx530057 : x530057.toInt = y530033.toInt := congrArg Int32.toInt sx530057
            refine va_mmin hx hb (by rw [hml]; exact hl.1.symm) hown (hts (.methodLink RX4 49 Lib.Math.min.name) (by decide +kernel)) (hts (.static Lib.Math.min.name) (by decide +kernel)) (hts (.initialized "java/lang/Math") (by decide +kernel)) (hts _ (List.mem_of_getElem? (i := 10) rfl)) (Nat.le_of_ble_eq_true rfl) (Nat.le_of_ble_eq_true rfl) (Nat.le_of_ble_eq_true rfl) (Nat.le_of_ble_eq_true rfl) dX4_agreeWith_76 ?_
            refine lv_topi (fun z530058 ez530058 => ?_)
            have tz530058 : z530058.toInt = min x530055.toInt x530057.toInt := xmin_t ez530058
            obtain ⟨j530059, hj530059⟩ := pG_4 (cy := cy) (N := N) (T := T) (I := I530052) (Q := Q) (J := J) (hE.rL hp hn hl9).1 (hE.rL hp hn hl9).2
            have hDo := hD
            refine va_put (D := (dC, dI)) (ci := 4) (v := .int z530058) (ty := .int) (C := RX4) (T := TX4) (N := 7) hx hb hts hi4 tyX4 tyX4_ok nmX4 hown hK hP hD hS j530059 hj530059 rfl 4 (by decide) (hts (.fieldLink RX4 27 "TallyLogs$Replica" "flushed" "I") (by decide +kernel)) (fun _ h9 => h9) rfl (by decide +kernel) rfl rfl (Nat.le_of_ble_eq_true rfl) dX4_agreeWith_79 (fun H locs hP hD hS => ?_)
            have hP := Eq.mp (congrArg (fun w => va_P (dC, dI) vwCl w H) (pP_4_4 (x := z530058) hDo (hE.rL hp hn hl9).1 (hE.rL hp hn hl9).2 hj530059)) hP
            obtain ⟨I530060, eI530060⟩ : ∃ z, z = p2 I530052 (ra (5 * Gp + Gn)) 4 z530058 := ⟨_, rfl⟩
            rw [← eI530060] at hP
            have hR : RS v I530060 Q J I530060 Q J := RS.rf
            obtain ⟨sg530061, esg530061⟩ : ∃ z, z = sG sg530053 (5 * Gp + Gn) 4 z530058 := ⟨_, rfl⟩
            have hE : REP v pa ra L K N T I530060 Q J kx sg530061 := by rw [esg530061, eI530060]; exact hE.wr hp hn hl9 (by decide) (by decide) (fun _ _ z => z)
            have hl9 : lvj sg530061 Gp Gn := by rw [esg530061]; exact hl9
            have hlm : lvj sg530061 Gp Gm := by rw [esg530061]; exact hlm
            have hC : CT v L K N T I530060 Q := by rw [eI530060]; exact hC.pi (by rw [(hE.rL hp hn hl9).2]; decide)
            have hD : va_D A (va_pl L (pF cy K N T I530060 Q J)) := pD hDo
            rw [hQz]
            exact W.vret hx hb hr (fun t ht hW => ⟨⟨(I530060, Q, J), rfl, by show REP v pa ra L K N T I530060 Q J kx _; have ha : oA1 σ (5 * Gp + Gn) (5 * Gp + Gm) = σ := (by rw [oA1, if_pos (by have k9 := c530025; simp only [sx530022, sx530024] at k9; exact k9)]); have h9 : oA2 (oA1 σ (5 * Gp + Gn) (5 * Gp + Gm)) (5 * Gp + Gn) (5 * Gp + Gm) = sg530061 := (by rw [ha, oA2, hpn, esg530061, ez530058, ux530055, sx530057, esg530053, sG_o (f := 2) (g := 4) (by decide)] <;> simp only [imn] <;> rfl); rw [h9]; exact hE, by rw [ht]; exact hP, va_K.moved hW.alike hK, hD⟩, hS.F ht⟩) hS.2.2 dX4_agreeWith_82
          · have kc530050 : ¬ (r530048.toInt = 0) := by have h9 := c530050; rw [xk_eq, xk_0] at h9; exact h9
            obtain ⟨v530062, ev530062⟩ : ∃ y : Int32, y = y530033 + Int32.ofInt 1 := ⟨_, rfl⟩
            refine lv_iinc (v := v530062) (lv' := [(2, .int v530062), (0, .ref (ra (5 * Gp + Gn))), (1, .ref (ra (5 * Gp + Gm)))]) hx hb dX4_agreeWith_56 hl (k := 0) rfl ev530062.symm (by decide) rfl (fun ls hl => ?_)
            refine lv_goto (tgt := 39) hx hb dX4_agreeWith_59 (by decide) ?_
            have tv530062 : v530062.toInt = y530033.toInt + 1 := by rw [ev530062, show y530033 + Int32.ofInt 1 = y530033 + 1 from rfl]; exact xinc (y := σ.2.1 (5 * Gp + Gn) 2) (by rw [xk_lt]; omega)
            exact ih530032 _ _ (by omega) (by omega) (⟨by omega, by omega, by omega, by rw [clsucc (y := y530033) (by omega) tv530062, ← fW_hit (lt_ze (by omega) (by omega)) (decide_eq_true ⟨lt_ze (by omega) (ite1_1 hr530048 c530050).1.2.2, (ite1_1 hr530048 c530050).2⟩)]; exact hiv530032.2.2.2⟩)  (lv_sub hl [0, 1, 2] rfl)
    exact hLP530032 _ _ _ (Nat.lt_succ_self _) (by omega) (⟨by omega, by omega, by omega, by have k9 : imx (σ.2.1 (5 * Gp + Gn) 1) (σ.2.1 (5 * Gp + Gm) 1) = z530031 := (by rw [imx, ← ux530028, ← ux530030]; exact ez530031.symm); rw [oPt, k9]⟩)  (lv_sub hl [0, 1, 2] rfl)
  · have kc530025 : ¬ (x530024.toInt ≤ x530022.toInt) := by have h9 := c530025; rw [xk_le] at h9; exact h9
    refine lv_aload_n hx hb dX4_agreeWith_11 rfl (lv_at hl 0 rfl) ?_
    refine lv_aload_n hx hb dX4_agreeWith_12 rfl (lv_at hl 1 rfl) ?_
    obtain ⟨j530063, hj530063⟩ := pG_4 (cy := cy) (N := N) (T := T) (I := I) (Q := Q) (J := J) (hE.rL hp hm hlm).1 (hE.rL hp hm hlm).2
    refine va_get (D := (dC, dI)) (ci := 4) (v := .int (I (ra (5 * Gp + Gm)) 1)) (C := RX4) (T := TX4) (N := 7) hx hb hts hi4 hown hK hP j530063 hj530063 rfl 1 (by decide) (hts (.fieldLink RX4 17 "TallyLogs$Replica" "start" "I") (by decide +kernel)) (fun _ h9 => h9) rfl dX4_agreeWith_13 ?_
    refine lv_topi (fun x530064 ex530064 => ?_)
    have sx530064 : x530064 = σ.2.1 (5 * Gp + Gm) 1 := ex530064.trans (hE.g hp hm hlm (by decide) (by decide) (by decide))
    have ux530064 := sx530064
    have tx530064 : x530064.toInt = (σ.2.1 (5 * Gp + Gm) 1).toInt := congrArg Int32.toInt sx530064
    obtain ⟨j530065, hj530065⟩ := pG_4 (cy := cy) (N := N) (T := T) (I := I) (Q := Q) (J := J) (hE.rL hp hn hl9).1 (hE.rL hp hn hl9).2
    have hDo := hD
    refine va_put (D := (dC, dI)) (ci := 4) (v := .int x530064) (ty := .int) (C := RX4) (T := TX4) (N := 7) hx hb hts hi4 tyX4 tyX4_ok nmX4 hown hK hP hD hS j530065 hj530065 rfl 1 (by decide) (hts (.fieldLink RX4 17 "TallyLogs$Replica" "start" "I") (by decide +kernel)) (fun _ h9 => h9) rfl (by decide +kernel) rfl rfl (Nat.le_of_ble_eq_true rfl) dX4_agreeWith_16 (fun H locs hP hD hS => ?_)
    have hP := Eq.mp (congrArg (fun w => va_P (dC, dI) vwCl w H) (pP_4_1 (x := x530064) hDo (hE.rL hp hn hl9).1 (hE.rL hp hn hl9).2 hj530065)) hP
    obtain ⟨I530066, eI530066⟩ : ∃ z, z = p2 I (ra (5 * Gp + Gn)) 1 x530064 := ⟨_, rfl⟩
    rw [← eI530066] at hP
    have hR : RS v I530066 Q J I530066 Q J := RS.rf
    obtain ⟨sg530067, esg530067⟩ : ∃ z, z = sG σ (5 * Gp + Gn) 1 x530064 := ⟨_, rfl⟩
    have hE : REP v pa ra L K N T I530066 Q J kx sg530067 := by rw [esg530067, eI530066]; exact hE.ws hp hn hl9 (by decide) (by omega) (fun o h1 h2 => ⟨by rw [sG_zbs] at h1; have := zb_le (σ := σ) (j := (5 * Gp + Gn)) (y := x530064) (by omega); omega, by rw [sG_ze (fun z => absurd z.2 (by decide))] at h2; exact h2⟩)
    have hl9 : lvj sg530067 Gp Gn := by rw [esg530067]; exact hl9
    have hlm : lvj sg530067 Gp Gm := by rw [esg530067]; exact hlm
    have hC : CT v L K N T I530066 Q := by rw [eI530066]; exact hC.ps (by omega)
    have hD : va_D A (va_pl L (pF cy K N T I530066 Q J)) := pD hDo
    refine lv_aload_n hx hb dX4_agreeWith_19 rfl (lv_at hl 0 rfl) ?_
    refine lv_aload_n hx hb dX4_agreeWith_20 rfl (lv_at hl 1 rfl) ?_
    obtain ⟨j530068, hj530068⟩ := pG_4 (cy := cy) (N := N) (T := T) (I := I530066) (Q := Q) (J := J) (hE.rL hp hm hlm).1 (hE.rL hp hm hlm).2
    refine va_get (D := (dC, dI)) (ci := 4) (v := .int (I530066 (ra (5 * Gp + Gm)) 1)) (C := RX4) (T := TX4) (N := 7) hx hb hts hi4 hown hK hP j530068 hj530068 rfl 1 (by decide) (hts (.fieldLink RX4 17 "TallyLogs$Replica" "start" "I") (by decide +kernel)) (fun _ h9 => h9) rfl dX4_agreeWith_21 ?_
    refine lv_topi (fun x530069 ex530069 => ?_)
    have sx530069 : x530069 = sg530067.2.1 (5 * Gp + Gm) 1 := ex530069.trans (hE.g hp hm hlm (by decide) (by decide) (by decide))
    have ux530069 := sx530069
    have sx530069 : x530069 = σ.2.1 (5 * Gp + Gm) 1 := by rw [sx530069, esg530067, sG_n (by omega)]
    have tx530069 : x530069.toInt = (σ.2.1 (5 * Gp + Gm) 1).toInt := congrArg Int32.toInt sx530069
    obtain ⟨j530070, hj530070⟩ := pG_4 (cy := cy) (N := N) (T := T) (I := I530066) (Q := Q) (J := J) (hE.rL hp hn hl9).1 (hE.rL hp hn hl9).2
    have hDo := hD
    refine va_put (D := (dC, dI)) (ci := 4) (v := .int x530069) (ty := .int) (C := RX4) (T := TX4) (N := 7) hx hb hts hi4 tyX4 tyX4_ok nmX4 hown hK hP hD hS j530070 hj530070 rfl 2 (by decide) (hts (.fieldLink RX4 21 "TallyLogs$Replica" "end" "I") (by decide +kernel)) (fun _ h9 => h9) rfl (by decide +kernel) rfl rfl (Nat.le_of_ble_eq_true rfl) dX4_agreeWith_24 (fun H locs hP hD hS => ?_)
    have hP := Eq.mp (congrArg (fun w => va_P (dC, dI) vwCl w H) (pP_4_2 (x := x530069) hDo (hE.rL hp hn hl9).1 (hE.rL hp hn hl9).2 hj530070)) hP
    obtain ⟨I530071, eI530071⟩ : ∃ z, z = p2 I530066 (ra (5 * Gp + Gn)) 2 x530069 := ⟨_, rfl⟩
    rw [← eI530071] at hP
    have hR : RS v I530071 Q J I530071 Q J := RS.rf
    obtain ⟨sg530072, esg530072⟩ : ∃ z, z = sG sg530067 (5 * Gp + Gn) 2 x530069 := ⟨_, rfl⟩
    have hE : REP v pa ra L K N T I530071 Q J kx sg530072 := by rw [esg530072, eI530071]; exact hE.ws hp hn hl9 (by decide) (by omega) (fun o h1 h2 => absurd h2 (by rw [sG_zes]; rw [sG_zb (fun z => absurd z.2 (by decide)), esg530067, sG_zbs] at h1; have q1 := clT x530069; have q2 := clT x530064; omega))
    have hl9 : lvj sg530072 Gp Gn := by rw [esg530072]; exact hl9
    have hlm : lvj sg530072 Gp Gm := by rw [esg530072]; exact hlm
    have hC : CT v L K N T I530071 Q := by rw [eI530071]; exact hC.pi (by rw [(hE.rL hp hn hl9).2]; decide)
    have hD : va_D A (va_pl L (pF cy K N T I530071 Q J)) := pD hDo
    have zg5300731 : (sg530072.2.1 (5 * Gp + Gn) 1).toInt = x530064.toInt := by rw [esg530072, sG_o (by decide), esg530067, sG_s]
    have zg5300732 : (sg530072.2.1 (5 * Gp + Gn) 2).toInt = x530069.toInt := by rw [esg530072, sG_s]
    have zm5300731 : (sg530072.2.1 (5 * Gp + Gm) 1).toInt = (σ.2.1 (5 * Gp + Gm) 1).toInt := by rw [esg530072, sG_o (by decide), esg530067, sG_n (by omega)]
    have zm5300732 : (sg530072.2.1 (5 * Gp + Gm) 2).toInt = (σ.2.1 (5 * Gp + Gm) 2).toInt := by rw [esg530072, sG_n (by omega), esg530067, sG_o (by decide)]
    have hN9 : LN (sg530072.2.1 (5 * Gp + Gn)) := ⟨by omega, by omega, by omega, by omega⟩
    have hNm : LN (sg530072.2.1 (5 * Gp + Gm)) := ⟨by omega, by omega, by omega, by omega⟩
    refine lv_aload_n hx hb dX4_agreeWith_27 rfl (lv_at hl 0 rfl) ?_
    obtain ⟨j530074, hj530074⟩ := pG_4 (cy := cy) (N := N) (T := T) (I := I530071) (Q := Q) (J := J) (hE.rL hp hn hl9).1 (hE.rL hp hn hl9).2
    refine va_get (D := (dC, dI)) (ci := 4) (v := .int (I530071 (ra (5 * Gp + Gn)) 1)) (C := RX4) (T := TX4) (N := 7) hx hb hts hi4 hown hK hP j530074 hj530074 rfl 1 (by decide) (hts (.fieldLink RX4 17 "TallyLogs$Replica" "start" "I") (by decide +kernel)) (fun _ h9 => h9) rfl dX4_agreeWith_28 ?_
    refine lv_topi (fun x530075 ex530075 => ?_)
    have sx530075 : x530075 = sg530072.2.1 (5 * Gp + Gn) 1 := ex530075.trans (hE.g hp hn hl9 (by decide) (by decide) (by decide))
    have ux530075 := sx530075
    have sx530075 : x530075 = x530064 := by rw [sx530075, esg530072, sG_o (by decide), esg530067, sG_s]
    have tx530075 : x530075.toInt = x530064.toInt := congrArg Int32.toInt sx530075
    refine lv_aload_n hx hb dX4_agreeWith_31 rfl (lv_at hl 1 rfl) ?_
    obtain ⟨j530076, hj530076⟩ := pG_4 (cy := cy) (N := N) (T := T) (I := I530071) (Q := Q) (J := J) (hE.rL hp hm hlm).1 (hE.rL hp hm hlm).2
    refine va_get (D := (dC, dI)) (ci := 4) (v := .int (I530071 (ra (5 * Gp + Gm)) 1)) (C := RX4) (T := TX4) (N := 7) hx hb hts hi4 hown hK hP j530076 hj530076 rfl 1 (by decide) (hts (.fieldLink RX4 17 "TallyLogs$Replica" "start" "I") (by decide +kernel)) (fun _ h9 => h9) rfl dX4_agreeWith_32 ?_
    refine lv_topi (fun x530077 ex530077 => ?_)
    have sx530077 : x530077 = sg530072.2.1 (5 * Gp + Gm) 1 := ex530077.trans (hE.g hp hm hlm (by decide) (by decide) (by decide))
    have ux530077 := sx530077
    have sx530077 : x530077 = σ.2.1 (5 * Gp + Gm) 1 := by rw [sx530077, esg530072, sG_o (by decide), esg530067, sG_n (by omega)]
    have tx530077 : x530077.toInt = (σ.2.1 (5 * Gp + Gm) 1).toInt := congrArg Int32.toInt sx530077
    refine va_mmax hx hb (by rw [hml]; exact hl.1.symm) hown (hts (.methodLink RX4 46 Lib.Math.max.name) (by decide +kernel)) (hts (.static Lib.Math.max.name) (by decide +kernel)) (hts (.initialized "java/lang/Math") (by decide +kernel)) (hts _ (List.mem_of_getElem? (i := 6) rfl)) (Nat.le_of_ble_eq_true rfl) (Nat.le_of_ble_eq_true rfl) (Nat.le_of_ble_eq_true rfl) (Nat.le_of_ble_eq_true rfl) dX4_agreeWith_35 ?_
    refine lv_topi (fun z530078 ez530078 => ?_)
    have tz530078 : z530078.toInt = max x530075.toInt x530077.toInt := xmax_t ez530078
    refine lv_istore_n (lv' := [(2, .int z530078), (0, .ref (ra (5 * Gp + Gn))), (1, .ref (ra (5 * Gp + Gm)))]) hx hb dX4_agreeWith_38 rfl hl (by decide) rfl (fun ls hl => ?_)
    refine wq_gen (fun Qz hQz => ?_)
    have hLP530079 : ∀ (n : Nat) (y530080 : Int32) (ls : Array Slot), ((sg530072.2.1 (5 * Gp + Gn) 2).toInt - y530080.toInt).toNat < n → 0 ≤ y530080.toInt → ((sg530072.2.1 (5 * Gp + Gn) 1).toInt ≤ y530080.toInt ∧ (sg530072.2.1 (5 * Gp + Gm) 1).toInt ≤ y530080.toInt ∧ y530080.toInt ≤ (sg530072.2.1 (5 * Gp + Gn) 2).toInt ∧ fW (pAg sg530072 (5 * Gp + Gn) (5 * Gp + Gm)) (ze sg530072 (5 * Gp + Gn) - y530080.toNatClampNeg) y530080.toNatClampNeg = oPt sg530072 (5 * Gp + Gn) (5 * Gp + Gm)) → lv_has ls 3 [(2, .int y530080), (0, .ref (ra (5 * Gp + Gn))), (1, .ref (ra (5 * Gp + Gm)))] → W p l e (headSpec wsX4_agreeWith ({ frames := 3, cells := 0, slots := 0, locals := 67 })).room s m ([.ref (ra (5 * Gp + Gn)), .ref (ra (5 * Gp + Gm))] : List Value).toArray below meth c H locs 0 0 Qz (F0 m 39 ls []) := by
      intro n
      induction n with
      | zero => intro y530080 ls hms; exact absurd hms (Nat.not_lt_zero _)
      | succ n ih530079 =>
        intro y530080 ls hms hnn530079 hiv530079 hl
        obtain ⟨hiw, hiw2, hiw3, _⟩ := id hiv530079
        refine lv_iload_n hx hb dX4_agreeWith_39 rfl (lv_at hl 0 rfl) ?_
        refine lv_aload_n hx hb dX4_agreeWith_40 rfl (lv_at hl 1 rfl) ?_
        obtain ⟨j530081, hj530081⟩ := pG_4 (cy := cy) (N := N) (T := T) (I := I530071) (Q := Q) (J := J) (hE.rL hp hn hl9).1 (hE.rL hp hn hl9).2
        refine va_get (D := (dC, dI)) (ci := 4) (v := .int (I530071 (ra (5 * Gp + Gn)) 2)) (C := RX4) (T := TX4) (N := 7) hx hb hts hi4 hown hK hP j530081 hj530081 rfl 2 (by decide) (hts (.fieldLink RX4 21 "TallyLogs$Replica" "end" "I") (by decide +kernel)) (fun _ h9 => h9) rfl dX4_agreeWith_41 ?_
        refine lv_topi (fun x530082 ex530082 => ?_)
        have sx530082 : x530082 = sg530072.2.1 (5 * Gp + Gn) 2 := ex530082.trans (hE.g hp hn hl9 (by decide) (by decide) (by decide))
        have ux530082 := sx530082
        have sx530082 : x530082 = x530069 := by rw [sx530082, esg530072, sG_s]
        have tx530082 : x530082.toInt = x530069.toInt := congrArg Int32.toInt sx530082
        refine lv_icmp_ge (tgt := 62) hx hb dX4_agreeWith_44 (by decide) (fun c530083 => ?_) (fun c530083 => ?_)
        · have kc530083 : x530082.toInt ≤ y530080.toInt := by have h9 := c530083; rw [xk_le] at h9; exact h9
          have hpt : oPt sg530072 (5 * Gp + Gn) (5 * Gp + Gm) = y530080.toNatClampNeg := by rw [← hiv530079.2.2.2, fW_end (ze_le (by omega))]
          have hpn : nI (oPt sg530072 (5 * Gp + Gn) (5 * Gp + Gm)) = y530080 := by rw [hpt]; exact (xcl9 (by omega)).symm
          refine lv_aload_n hx hb dX4_agreeWith_62 rfl (lv_at hl 1 rfl) ?_
          refine lv_iload_n hx hb dX4_agreeWith_63 rfl (lv_at hl 0 rfl) ?_
          obtain ⟨j530084, hj530084⟩ := pG_4 (cy := cy) (N := N) (T := T) (I := I530071) (Q := Q) (J := J) (hE.rL hp hn hl9).1 (hE.rL hp hn hl9).2
          have hDo := hD
          refine va_put (D := (dC, dI)) (ci := 4) (v := .int y530080) (ty := .int) (C := RX4) (T := TX4) (N := 7) hx hb hts hi4 tyX4 tyX4_ok nmX4 hown hK hP hD hS j530084 hj530084 rfl 2 (by decide) (hts (.fieldLink RX4 21 "TallyLogs$Replica" "end" "I") (by decide +kernel)) (fun _ h9 => h9) rfl (by decide +kernel) rfl rfl (Nat.le_of_ble_eq_true rfl) dX4_agreeWith_64 (fun H locs hP hD hS => ?_)
          have hP := Eq.mp (congrArg (fun w => va_P (dC, dI) vwCl w H) (pP_4_2 (x := y530080) hDo (hE.rL hp hn hl9).1 (hE.rL hp hn hl9).2 hj530084)) hP
          obtain ⟨I530085, eI530085⟩ : ∃ z, z = p2 I530071 (ra (5 * Gp + Gn)) 2 y530080 := ⟨_, rfl⟩
          rw [← eI530085] at hP
          have hR : RS v I530085 Q J I530085 Q J := RS.rf
          obtain ⟨sg530086, esg530086⟩ : ∃ z, z = sG sg530072 (5 * Gp + Gn) 2 y530080 := ⟨_, rfl⟩
          have hE : REP v pa ra L K N T I530085 Q J kx sg530086 := by rw [esg530086, eI530085]; exact hE.ws hp hn hl9 (by decide) (by omega) (fun o h1 h2 => ⟨by rw [sG_zb (fun z => absurd z.2 (by decide))] at h1; exact h1, by rw [sG_zes] at h2; have := le_ze (σ := sg530072) (j := (5 * Gp + Gn)) (y := y530080) (by omega); omega⟩)
          have hl9 : lvj sg530086 Gp Gn := by rw [esg530086]; exact hl9
          have hlm : lvj sg530086 Gp Gm := by rw [esg530086]; exact hlm
          have hC : CT v L K N T I530085 Q := by rw [eI530085]; exact hC.pi (by rw [(hE.rL hp hn hl9).2]; decide)
          have hD : va_D A (va_pl L (pF cy K N T I530085 Q J)) := pD hDo
          refine lv_aload_n hx hb dX4_agreeWith_67 rfl (lv_at hl 1 rfl) ?_
          refine lv_aload_n hx hb dX4_agreeWith_68 rfl (lv_at hl 1 rfl) ?_
          obtain ⟨j530087, hj530087⟩ := pG_4 (cy := cy) (N := N) (T := T) (I := I530085) (Q := Q) (J := J) (hE.rL hp hn hl9).1 (hE.rL hp hn hl9).2
          refine va_get (D := (dC, dI)) (ci := 4) (v := .int (I530085 (ra (5 * Gp + Gn)) 4)) (C := RX4) (T := TX4) (N := 7) hx hb hts hi4 hown hK hP j530087 hj530087 rfl 4 (by decide) (hts (.fieldLink RX4 27 "TallyLogs$Replica" "flushed" "I") (by decide +kernel)) (fun _ h9 => h9) rfl dX4_agreeWith_69 ?_
          refine lv_topi (fun x530088 ex530088 => ?_)
          have sx530088 : x530088 = sg530086.2.1 (5 * Gp + Gn) 4 := ex530088.trans (hE.g hp hn hl9 (by decide) (by decide) (by decide))
          have ux530088 := sx530088
          have sx530088 : x530088 = σ.2.1 (5 * Gp + Gn) 4 := by rw [sx530088, esg530086, sG_o (by decide), esg530072, sG_o (by decide), esg530067, sG_o (by decide)]
          have tx530088 : x530088.toInt = (σ.2.1 (5 * Gp + Gn) 4).toInt := congrArg Int32.toInt sx530088
          refine lv_aload_n hx hb dX4_agreeWith_72 rfl (lv_at hl 1 rfl) ?_
          obtain ⟨j530089, hj530089⟩ := pG_4 (cy := cy) (N := N) (T := T) (I := I530085) (Q := Q) (J := J) (hE.rL hp hn hl9).1 (hE.rL hp hn hl9).2
          refine va_get (D := (dC, dI)) (ci := 4) (v := .int (I530085 (ra (5 * Gp + Gn)) 2)) (C := RX4) (T := TX4) (N := 7) hx hb hts hi4 hown hK hP j530089 hj530089 rfl 2 (by decide) (hts (.fieldLink RX4 21 "TallyLogs$Replica" "end" "I") (by decide +kernel)) (fun _ h9 => h9) rfl dX4_agreeWith_73 ?_
          refine lv_topi (fun x530090 ex530090 => ?_)
          have sx530090 : x530090 = sg530086.2.1 (5 * Gp + Gn) 2 := ex530090.trans (hE.g hp hn hl9 (by decide) (by decide) (by decide))
          have ux530090 := sx530090
          have sx530090 : x530090 = y530080 := by rw [sx530090, esg530086, sG_s]
          have tx530090 : x530090.toInt = y530080.toInt := congrArg Int32.toInt sx530090
          refine va_mmin hx hb (by rw [hml]; exact hl.1.symm) hown (hts (.methodLink RX4 49 Lib.Math.min.name) (by decide +kernel)) (hts (.static Lib.Math.min.name) (by decide +kernel)) (hts (.initialized "java/lang/Math") (by decide +kernel)) (hts _ (List.mem_of_getElem? (i := 10) rfl)) (Nat.le_of_ble_eq_true rfl) (Nat.le_of_ble_eq_true rfl) (Nat.le_of_ble_eq_true rfl) (Nat.le_of_ble_eq_true rfl) dX4_agreeWith_76 ?_
          refine lv_topi (fun z530091 ez530091 => ?_)
          have tz530091 : z530091.toInt = min x530088.toInt x530090.toInt := xmin_t ez530091
          obtain ⟨j530092, hj530092⟩ := pG_4 (cy := cy) (N := N) (T := T) (I := I530085) (Q := Q) (J := J) (hE.rL hp hn hl9).1 (hE.rL hp hn hl9).2
          have hDo := hD
          refine va_put (D := (dC, dI)) (ci := 4) (v := .int z530091) (ty := .int) (C := RX4) (T := TX4) (N := 7) hx hb hts hi4 tyX4 tyX4_ok nmX4 hown hK hP hD hS j530092 hj530092 rfl 4 (by decide) (hts (.fieldLink RX4 27 "TallyLogs$Replica" "flushed" "I") (by decide +kernel)) (fun _ h9 => h9) rfl (by decide +kernel) rfl rfl (Nat.le_of_ble_eq_true rfl) dX4_agreeWith_79 (fun H locs hP hD hS => ?_)
          have hP := Eq.mp (congrArg (fun w => va_P (dC, dI) vwCl w H) (pP_4_4 (x := z530091) hDo (hE.rL hp hn hl9).1 (hE.rL hp hn hl9).2 hj530092)) hP
          obtain ⟨I530093, eI530093⟩ : ∃ z, z = p2 I530085 (ra (5 * Gp + Gn)) 4 z530091 := ⟨_, rfl⟩
          rw [← eI530093] at hP
          have hR : RS v I530093 Q J I530093 Q J := RS.rf
          obtain ⟨sg530094, esg530094⟩ : ∃ z, z = sG sg530086 (5 * Gp + Gn) 4 z530091 := ⟨_, rfl⟩
          have hE : REP v pa ra L K N T I530093 Q J kx sg530094 := by rw [esg530094, eI530093]; exact hE.wr hp hn hl9 (by decide) (by decide) (fun _ _ z => z)
          have hl9 : lvj sg530094 Gp Gn := by rw [esg530094]; exact hl9
          have hlm : lvj sg530094 Gp Gm := by rw [esg530094]; exact hlm
          have hC : CT v L K N T I530093 Q := by rw [eI530093]; exact hC.pi (by rw [(hE.rL hp hn hl9).2]; decide)
          have hD : va_D A (va_pl L (pF cy K N T I530093 Q J)) := pD hDo
          rw [hQz]
          exact W.vret hx hb hr (fun t ht hW => ⟨⟨(I530093, Q, J), rfl, by show REP v pa ra L K N T I530093 Q J kx _; have ha : oA1 σ (5 * Gp + Gn) (5 * Gp + Gm) = sg530072 := (by rw [oA1, if_neg (by have k9 := c530025; simp only [sx530022, sx530024] at k9; exact k9), esg530072, esg530067, sx530069, sx530064]); have h9 : oA2 (oA1 σ (5 * Gp + Gn) (5 * Gp + Gm)) (5 * Gp + Gn) (5 * Gp + Gm) = sg530094 := (by rw [ha, oA2, hpn, esg530094, ez530091, ux530088, sx530090, esg530086, sG_o (f := 2) (g := 4) (by decide)] <;> simp only [imn] <;> rfl); rw [h9]; exact hE, by rw [ht]; exact hP, va_K.moved hW.alike hK, hD⟩, hS.F ht⟩) hS.2.2 dX4_agreeWith_82
        · have kc530083 : ¬ (x530082.toInt ≤ y530080.toInt) := by have h9 := c530083; rw [xk_le] at h9; exact h9
          refine lv_aload_n hx hb dX4_agreeWith_47 rfl (lv_at hl 1 rfl) ?_
          refine lv_iload_n hx hb dX4_agreeWith_48 rfl (lv_at hl 0 rfl) ?_
          refine lv_aload_n hx hb dX4_agreeWith_49 rfl (lv_at hl 2 rfl) ?_
          obtain ⟨j530096, hj530096⟩ := pG_4 (cy := cy) (N := N) (T := T) (I := I530071) (Q := Q) (J := J) (hE.rL hp hn hl9).1 (hE.rL hp hn hl9).2
          refine vp_callSi (W.runV (As := [.int y530080, .ref (ra (5 * Gp + Gm))]) (rest := []) ⟨hx, hb, hml, hown, hts⟩ (g_X4_hasSameEpoch l dC dI cy v L K N T I530071 Q J pa ra kx sg530072 Gp Gn Gm y530080 hE hp hn hl9 hN9 hm hlm hNm) (cwV 2 hts gX4_agreeWith_X4_hasSameEpoch rfl rfl rfl (by decide +kernel) ⟨Nat.le_of_ble_eq_true rfl, Nat.le_of_ble_eq_true rfl⟩) ⟨pb_blind, va_recv hK hP (ci := 4) (q0 := j530096) rfl hj530096, fun U hU hW => ⟨rfl, pb_pre hP hK hN hU hW⟩⟩ rfl rfl hl.1 rfl (lv_room (Nat.le_of_ble_eq_true rfl)) dX4_agreeWith_50 ⟨Nat.le_of_ble_eq_true rfl, Nat.le_of_ble_eq_true rfl⟩) (fun r530095 hr530095 => ?_)
          refine lv_if_eq (tgt := 62) hx hb dX4_agreeWith_53 (by decide) (fun c530097 => ?_) (fun c530097 => ?_)
          · have kc530097 : r530095.toInt = 0 := by have h9 := c530097; rw [xk_eq, xk_0] at h9; exact h9
            have hpt : oPt sg530072 (5 * Gp + Gn) (5 * Gp + Gm) = y530080.toNatClampNeg := by rw [← hiv530079.2.2.2, fW_stop (fun q => ite1_0 hr530095 c530097 ⟨⟨⟨by omega, by omega⟩, by omega, of_lt_ze (by omega) (of_decide_eq_true q).1⟩, (of_decide_eq_true q).2⟩)]
            have hpn : nI (oPt sg530072 (5 * Gp + Gn) (5 * Gp + Gm)) = y530080 := by rw [hpt]; exact (xcl9 (by omega)).symm
            refine lv_aload_n hx hb dX4_agreeWith_62 rfl (lv_at hl 1 rfl) ?_
            refine lv_iload_n hx hb dX4_agreeWith_63 rfl (lv_at hl 0 rfl) ?_
            obtain ⟨j530098, hj530098⟩ := pG_4 (cy := cy) (N := N) (T := T) (I := I530071) (Q := Q) (J := J) (hE.rL hp hn hl9).1 (hE.rL hp hn hl9).2
            have hDo := hD
            refine va_put (D := (dC, dI)) (ci := 4) (v := .int y530080) (ty := .int) (C := RX4) (T := TX4) (N := 7) hx hb hts hi4 tyX4 tyX4_ok nmX4 hown hK hP hD hS j530098 hj530098 rfl 2 (by decide) (hts (.fieldLink RX4 21 "TallyLogs$Replica" "end" "I") (by decide +kernel)) (fun _ h9 => h9) rfl (by decide +kernel) rfl rfl (Nat.le_of_ble_eq_true rfl) dX4_agreeWith_64 (fun H locs hP hD hS => ?_)
            have hP := Eq.mp (congrArg (fun w => va_P (dC, dI) vwCl w H) (pP_4_2 (x := y530080) hDo (hE.rL hp hn hl9).1 (hE.rL hp hn hl9).2 hj530098)) hP
            obtain ⟨I530099, eI530099⟩ : ∃ z, z = p2 I530071 (ra (5 * Gp + Gn)) 2 y530080 := ⟨_, rfl⟩
            rw [← eI530099] at hP
            have hR : RS v I530099 Q J I530099 Q J := RS.rf
            obtain ⟨sg530100, esg530100⟩ : ∃ z, z = sG sg530072 (5 * Gp + Gn) 2 y530080 := ⟨_, rfl⟩
            have hE : REP v pa ra L K N T I530099 Q J kx sg530100 := by rw [esg530100, eI530099]; exact hE.ws hp hn hl9 (by decide) (by omega) (fun o h1 h2 => ⟨by rw [sG_zb (fun z => absurd z.2 (by decide))] at h1; exact h1, by rw [sG_zes] at h2; have := le_ze (σ := sg530072) (j := (5 * Gp + Gn)) (y := y530080) (by omega); omega⟩)
            have hl9 : lvj sg530100 Gp Gn := by rw [esg530100]; exact hl9
            have hlm : lvj sg530100 Gp Gm := by rw [esg530100]; exact hlm
            have hC : CT v L K N T I530099 Q := by rw [eI530099]; exact hC.pi (by rw [(hE.rL hp hn hl9).2]; decide)
            have hD : va_D A (va_pl L (pF cy K N T I530099 Q J)) := pD hDo
            refine lv_aload_n hx hb dX4_agreeWith_67 rfl (lv_at hl 1 rfl) ?_
            refine lv_aload_n hx hb dX4_agreeWith_68 rfl (lv_at hl 1 rfl) ?_
            obtain ⟨j530101, hj530101⟩ := pG_4 (cy := cy) (N := N) (T := T) (I := I530099) (Q := Q) (J := J) (hE.rL hp hn hl9).1 (hE.rL hp hn hl9).2
            refine va_get (D := (dC, dI)) (ci := 4) (v := .int (I530099 (ra (5 * Gp + Gn)) 4)) (C := RX4) (T := TX4) (N := 7) hx hb hts hi4 hown hK hP j530101 hj530101 rfl 4 (by decide) (hts (.fieldLink RX4 27 "TallyLogs$Replica" "flushed" "I") (by decide +kernel)) (fun _ h9 => h9) rfl dX4_agreeWith_69 ?_
            refine lv_topi (fun x530102 ex530102 => ?_)
            have sx530102 : x530102 = sg530100.2.1 (5 * Gp + Gn) 4 := ex530102.trans (hE.g hp hn hl9 (by decide) (by decide) (by decide))
            have ux530102 := sx530102
            have sx530102 : x530102 = σ.2.1 (5 * Gp + Gn) 4 := by rw [sx530102, esg530100, sG_o (by decide), esg530072, sG_o (by decide), esg530067, sG_o (by decide)]
            have tx530102 : x530102.toInt = (σ.2.1 (5 * Gp + Gn) 4).toInt := congrArg Int32.toInt sx530102
            refine lv_aload_n hx hb dX4_agreeWith_72 rfl (lv_at hl 1 rfl) ?_
            obtain ⟨j530103, hj530103⟩ := pG_4 (cy := cy) (N := N) (T := T) (I := I530099) (Q := Q) (J := J) (hE.rL hp hn hl9).1 (hE.rL hp hn hl9).2
            refine va_get (D := (dC, dI)) (ci := 4) (v := .int (I530099 (ra (5 * Gp + Gn)) 2)) (C := RX4) (T := TX4) (N := 7) hx hb hts hi4 hown hK hP j530103 hj530103 rfl 2 (by decide) (hts (.fieldLink RX4 21 "TallyLogs$Replica" "end" "I") (by decide +kernel)) (fun _ h9 => h9) rfl dX4_agreeWith_73 ?_
            refine lv_topi (fun x530104 ex530104 => ?_)
            have sx530104 : x530104 = sg530100.2.1 (5 * Gp + Gn) 2 := ex530104.trans (hE.g hp hn hl9 (by decide) (by decide) (by decide))
            have ux530104 := sx530104
            have sx530104 : x530104 = y530080 := by rw [sx530104, esg530100, sG_s]
            have tx530104 : x530104.toInt = y530080.toInt := congrArg Int32.toInt sx530104
            refine va_mmin hx hb (by rw [hml]; exact hl.1.symm) hown (hts (.methodLink RX4 49 Lib.Math.min.name) (by decide +kernel)) (hts (.static Lib.Math.min.name) (by decide +kernel)) (hts (.initialized "java/lang/Math") (by decide +kernel)) (hts _ (List.mem_of_getElem? (i := 10) rfl)) (Nat.le_of_ble_eq_true rfl) (Nat.le_of_ble_eq_true rfl) (Nat.le_of_ble_eq_true rfl) (Nat.le_of_ble_eq_true rfl) dX4_agreeWith_76 ?_
            refine lv_topi (fun z530105 ez530105 => ?_)
            have tz530105 : z530105.toInt = min x530102.toInt x530104.toInt := xmin_t ez530105
            obtain ⟨j530106, hj530106⟩ := pG_4 (cy := cy) (N := N) (T := T) (I := I530099) (Q := Q) (J := J) (hE.rL hp hn hl9).1 (hE.rL hp hn hl9).2
            have hDo := hD
            refine va_put (D := (dC, dI)) (ci := 4) (v := .int z530105) (ty := .int) (C := RX4) (T := TX4) (N := 7) hx hb hts hi4 tyX4 tyX4_ok nmX4 hown hK hP hD hS j530106 hj530106 rfl 4 (by decide) (hts (.fieldLink RX4 27 "TallyLogs$Replica" "flushed" "I") (by decide +kernel)) (fun _ h9 => h9) rfl (by decide +kernel) rfl rfl (Nat.le_of_ble_eq_true rfl) dX4_agreeWith_79 (fun H locs hP hD hS => ?_)
            have hP := Eq.mp (congrArg (fun w => va_P (dC, dI) vwCl w H) (pP_4_4 (x := z530105) hDo (hE.rL hp hn hl9).1 (hE.rL hp hn hl9).2 hj530106)) hP
            obtain ⟨I530107, eI530107⟩ : ∃ z, z = p2 I530099 (ra (5 * Gp + Gn)) 4 z530105 := ⟨_, rfl⟩
            rw [← eI530107] at hP
            have hR : RS v I530107 Q J I530107 Q J := RS.rf
            obtain ⟨sg530108, esg530108⟩ : ∃ z, z = sG sg530100 (5 * Gp + Gn) 4 z530105 := ⟨_, rfl⟩
            have hE : REP v pa ra L K N T I530107 Q J kx sg530108 := by rw [esg530108, eI530107]; exact hE.wr hp hn hl9 (by decide) (by decide) (fun _ _ z => z)
            have hl9 : lvj sg530108 Gp Gn := by rw [esg530108]; exact hl9
            have hlm : lvj sg530108 Gp Gm := by rw [esg530108]; exact hlm
            have hC : CT v L K N T I530107 Q := by rw [eI530107]; exact hC.pi (by rw [(hE.rL hp hn hl9).2]; decide)
            have hD : va_D A (va_pl L (pF cy K N T I530107 Q J)) := pD hDo
            rw [hQz]
            exact W.vret hx hb hr (fun t ht hW => ⟨⟨(I530107, Q, J), rfl, by show REP v pa ra L K N T I530107 Q J kx _; have ha : oA1 σ (5 * Gp + Gn) (5 * Gp + Gm) = sg530072 := (by rw [oA1, if_neg (by have k9 := c530025; simp only [sx530022, sx530024] at k9; exact k9), esg530072, esg530067, sx530069, sx530064]); have h9 : oA2 (oA1 σ (5 * Gp + Gn) (5 * Gp + Gm)) (5 * Gp + Gn) (5 * Gp + Gm) = sg530108 := (by rw [ha, oA2, hpn, esg530108, ez530105, ux530102, sx530104, esg530100, sG_o (f := 2) (g := 4) (by decide)] <;> simp only [imn] <;> rfl); rw [h9]; exact hE, by rw [ht]; exact hP, va_K.moved hW.alike hK, hD⟩, hS.F ht⟩) hS.2.2 dX4_agreeWith_82
          · have kc530097 : ¬ (r530095.toInt = 0) := by have h9 := c530097; rw [xk_eq, xk_0] at h9; exact h9
            obtain ⟨v530109, ev530109⟩ : ∃ y : Int32, y = y530080 + Int32.ofInt 1 := ⟨_, rfl⟩
            refine lv_iinc (v := v530109) (lv' := [(2, .int v530109), (0, .ref (ra (5 * Gp + Gn))), (1, .ref (ra (5 * Gp + Gm)))]) hx hb dX4_agreeWith_56 hl (k := 0) rfl ev530109.symm (by decide) rfl (fun ls hl => ?_)
            refine lv_goto (tgt := 39) hx hb dX4_agreeWith_59 (by decide) ?_
            have tv530109 : v530109.toInt = y530080.toInt + 1 := by rw [ev530109, show y530080 + Int32.ofInt 1 = y530080 + 1 from rfl]; exact xinc (y := sg530072.2.1 (5 * Gp + Gn) 2) (by rw [xk_lt]; omega)
            exact ih530079 _ _ (by omega) (by omega) (⟨by omega, by omega, by omega, by rw [clsucc (y := y530080) (by omega) tv530109, ← fW_hit (lt_ze (by omega) (by omega)) (decide_eq_true ⟨lt_ze (by omega) (ite1_1 hr530095 c530097).1.2.2, (ite1_1 hr530095 c530097).2⟩)]; exact hiv530079.2.2.2⟩)  (lv_sub hl [0, 1, 2] rfl)
    exact hLP530079 _ _ _ (Nat.lt_succ_self _) (by omega) (⟨by omega, by omega, by omega, by have k9 : imx (sg530072.2.1 (5 * Gp + Gn) 1) (sg530072.2.1 (5 * Gp + Gm) 1) = z530078 := (by rw [imx, ← ux530075, ← ux530077]; exact ez530078.symm); rw [oPt, k9]⟩)  (lv_sub hl [0, 1, 2] rfl)
