theorem oDb_1 {σ : SG} {j : Nat} {o : Int32} : (oDb σ j o).2.1 j 1 = imx (σ.2.1 j 1) o := by unfold oDb; rw [sG_o (by decide), sG_s]
theorem oDb_2 {σ : SG} {j : Nat} {o : Int32} : (oDb σ j o).2.1 j 2 = σ.2.1 j 2 := by unfold oDb; rw [sG_o (by decide), sG_o (by decide)]
theorem oDb_n {σ : SG} {i j : Nat} {o : Int32} (h : ¬ i = j) : (oDb σ j o).2.1 i = σ.2.1 i := by unfold oDb; rw [sG_n h, sG_n h]
theorem imx_t (x y : Int32) : (imx x y).toInt = max x.toInt y.toInt := xmax_t rfl
/-- fetchFrom -/
def oFf (σ : SG) (F l : Nat) : SG × Int32 := (sG (oTn (oDb σ F (σ.2.1 l 1)) F l 5).1 F 3 (imn ((oTn (oDb σ F (σ.2.1 l 1)) F l 5).1.2.1 l 3) ((oTn (oDb σ F (σ.2.1 l 1)) F l 5).1.2.1 F 2)), (oTn (oDb σ F (σ.2.1 l 1)) F l 5).2)
set_option maxHeartbeats 4000000 in
set_option maxRecDepth 100000 in
/-- Replica.fetchFrom, exactly -/
theorem g_X4_fetchFrom (l : Launch) (dC : Nat → ClassId) (dI : Nat → Nat → Nat) (cy : Nat → ClassId) (v : Nat → Nat) (L : List Nat) (K N : Nat → Nat) (T : Nat → Nat → Nat) (I : Nat → Nat → Int32) (Q : Nat → Nat → Option Nat) (J : Nat → Nat → Int32) (sz : Nat) (pa ra : Nat → Nat) (kx : Nat → Prop) (σ : SG) (Gp Gn Gm : Nat) (hE : REP v pa ra L K N T I Q J kx σ) (hp : Gp < 4) (hn : Gn < 5) (hl9 : lvj σ Gp Gn) (hN9 : LN (σ.2.1 (5 * Gp + Gn))) (hm : Gm < 5) (hlm : lvj σ Gp Gm) (hNm : LN (σ.2.1 (5 * Gp + Gm))) (hne : ¬ Gm = Gn) (hge : (σ.2.1 (5 * Gp + Gm) 1).toInt ≤ (σ.2.1 (5 * Gp + Gn) 2).toInt) : Met l yX4_fetchFrom wsX4_fetchFrom ({ frames := 2, cells := 0, slots := 0, locals := 43 }) (va_Pc [.ref (ra (5 * Gp + Gn)), .ref (ra (5 * Gp + Gm))] (pW dC dI cy L (pF cy K N T I Q J) sz)) (va_Qi (fun (r : Int32) (d : (Nat → Nat → Int32) × (Nat → Nat → Option Nat) × (Nat → Nat → Int32)) => (REP v pa ra L K N T d.1 d.2.1 d.2.2 kx ((oFf σ (5 * Gp + Gn) (5 * Gp + Gm)).1)) ∧ r = (oFf σ (5 * Gp + Gn) (5 * Gp + Gm)).2) (fun (d : (Nat → Nat → Int32) × (Nat → Nat → Option Nat) × (Nat → Nat → Int32)) t => va_P (dC, dI) vwCl (va_pl L (pF cy K N T d.1 d.2.1 d.2.2)) t.heap ∧ va_K (dC, dI) vwCl (pTy cy) t ∧ va_D (va_A (va_pl L (pF cy K N T I Q J)) sz) (va_pl L (pF cy K N T d.1 d.2.1 d.2.2))) (va_A (va_pl L (pF cy K N T I Q J)) sz)) 0 0 (va_A (va_pl L (pF cy K N T I Q J)) sz) := by
  refine Met.ofW (cc := cX4_fetchFrom) (maxL := 3) (ret := (some .int)) (by decide) rfl ?_
  intro p e s m args below meth c s₁ B hml hv
  obtain ⟨rfl, hsz, ⟨hP, hK, hN⟩, hD0⟩ := hv
  have hx := B.exec
  have hb := B.bytes
  have hr := B.returns
  have hts := atoms_spec (ws := wsX4_fetchFrom) B.pre
  have hown : s.vm.findClass RX4 = some m.cls := findClass_of_methodNamed B.named
  have hlocks := B.notSynchronized
  have hi4 : ∀ w ∈ wsX40, w ∈ wsX4_fetchFrom := by decide +kernel
  have hl := lv_entry ([.ref (ra (5 * Gp + Gn)), .ref (ra (5 * Gp + Gm))]) (n := 3) (Nat.le_of_ble_eq_true rfl)
  rw [lg_entry_eq]
  generalize (lg_sl ([.ref (ra (5 * Gp + Gn)), .ref (ra (5 * Gp + Gm))]) ++ List.replicate (3 - (lg_sl ([.ref (ra (5 * Gp + Gn)), .ref (ra (5 * Gp + Gm))])).length) Slot.unset).toArray = ls at hl ⊢
  have hl : lv_has ls 3 [(0, .ref (ra (5 * Gp + Gn))), (1, .ref (ra (5 * Gp + Gm)))] := hl
  subst hsz
  have hD := hD0.self (sz := s.heap.size)
  generalize hAe : va_A (va_pl L (pF cy K N T I Q J)) s.heap.size = A at hD ⊢
  have hA : ∀ q : Nat, s.heap.size ≤ q → A q := fun q h => by rw [← hAe]; exact Or.inr h
  have hS : va_S A s.heap s.heap [] := va_S.rf
  have hR : RS v I Q J I Q J := RS.rf
  have hn28 := hN.1
  have hn30 := hN.2.1
  have hn37 := hN.2.2.1
  have hC := hE.ct
  obtain ⟨n1g, n2g, n3g, n4g⟩ := id hN9
  obtain ⟨n1m, n2m, n3m, n4m⟩ := id hNm
  refine lv_aload_n hx hb dX4_fetchFrom_0 rfl (lv_at hl 0 rfl) ?_
  refine lv_aload_n hx hb dX4_fetchFrom_1 rfl (lv_at hl 1 rfl) ?_
  obtain ⟨j560120, hj560120⟩ := pG_4 (cy := cy) (N := N) (T := T) (I := I) (Q := Q) (J := J) (hE.rL hp hm hlm).1 (hE.rL hp hm hlm).2
  refine va_get (D := (dC, dI)) (ci := 4) (v := .int (I (ra (5 * Gp + Gm)) 1)) (C := RX4) (T := TX4) (N := 7) hx hb hts hi4 hown hK hP j560120 hj560120 rfl 1 (by decide) (hts (.fieldLink RX4 17 "TallyLogs$Replica" "start" "I") (by decide +kernel)) (fun _ h9 => h9) rfl dX4_fetchFrom_2 ?_
  refine lv_topi (fun x560121 ex560121 => ?_)
  have sx560121 : x560121 = σ.2.1 (5 * Gp + Gm) 1 := ex560121.trans (hE.g hp hm hlm (by decide) (by decide) (by decide))
  have ux560121 := sx560121
  have tx560121 : x560121.toInt = (σ.2.1 (5 * Gp + Gm) 1).toInt := congrArg Int32.toInt sx560121
  obtain ⟨j560122, hj560122⟩ := pG_4 (cy := cy) (N := N) (T := T) (I := I) (Q := Q) (J := J) (hE.rL hp hn hl9).1 (hE.rL hp hn hl9).2
  have hFc := pfree hD hS hA
  refine va_callv (va_runV (As := [.int x560121]) (rest := []) ⟨hx, hb, hml, hown, hts⟩ (g_X4_dropBefore l dC dI cy v L K N T I Q J s.heap.size pa ra kx σ Gp Gn x560121 hE hp hn hl9 hN9) (cwV 1 hts gX4_fetchFrom_X4_dropBefore rfl rfl rfl (by decide +kernel) ⟨Nat.le_of_ble_eq_true rfl, Nat.le_of_ble_eq_true rfl⟩) ⟨pw_blind, va_recv hK hP (ci := 4) (q0 := j560122) rfl hj560122, fun U hU hW => ⟨rfl, pw_pre hP hK hN hD hU hW⟩⟩ rfl rfl hl.1 rfl (lv_room (Nat.le_of_ble_eq_true rfl)) dX4_fetchFrom_5 ⟨Nat.le_of_ble_eq_true rfl, Nat.le_of_ble_eq_true rfl⟩) hS (fun q _ h => hFc q h) hFc (fun d9 t H1 locs ht hvm hw hB hz1 hk1 hS => ?_)
  obtain ⟨I560123, Q560123, J560123⟩ := d9
  obtain ⟨hP, hK1, hD1⟩ := hB
  rw [ht] at hP
  have hD := hD1.weaken (fun _ _ _ h => hFc _ h)
  generalize H1 = H at hP hS ⊢
  have hP : va_P (dC, dI) vwCl (va_pl L (pF cy K N T I560123 Q560123 J560123)) H := hP
  have hD : va_D A (va_pl L (pF cy K N T I560123 Q560123 J560123)) := hD
  have hR : RS v I560123 Q560123 J560123 I560123 Q560123 J560123 := RS.rf
  obtain ⟨sg560125, esg560125⟩ : ∃ z, z = oDb σ (5 * Gp + Gn) (σ.2.1 (5 * Gp + Gm) 1) := ⟨_, rfl⟩
  have hE : REP v pa ra L K N T I560123 Q560123 J560123 kx sg560125 := by rw [esg560125]; rw [← sx560121]; exact hw
  have hC := hE.ct
  have h1sg560125 : sg560125.1 = σ.1 := by rw [esg560125]; exact rfl
  have hl9 : lvj sg560125 Gp Gn := by unfold lvj; rw [h1sg560125]; exact hl9
  have hlm : lvj sg560125 Gp Gm := by unfold lvj; rw [h1sg560125]; exact hlm
  refine lv_iconst (v := 0) hx hb dX4_fetchFrom_8 (by decide) ?_
  refine lv_istore_n (lv' := [(2, .int 0), (0, .ref (ra (5 * Gp + Gn))), (1, .ref (ra (5 * Gp + Gm)))]) hx hb dX4_fetchFrom_9 rfl hl (by decide) rfl (fun ls hl => ?_)
  have w1 : (sg560125.2.1 (5 * Gp + Gn) 1).toInt = max (σ.2.1 (5 * Gp + Gn) 1).toInt (σ.2.1 (5 * Gp + Gm) 1).toInt := by rw [esg560125, oDb_1, imx_t]
  have w2 : (sg560125.2.1 (5 * Gp + Gn) 2).toInt = (σ.2.1 (5 * Gp + Gn) 2).toInt := by rw [esg560125, oDb_2]
  have wl : sg560125.2.1 (5 * Gp + Gm) = σ.2.1 (5 * Gp + Gm) := by rw [esg560125, oDb_n (by omega)]
  have w3 : (sg560125.2.1 (5 * Gp + Gm) 1).toInt = (σ.2.1 (5 * Gp + Gm) 1).toInt := by rw [wl]
  have w4 : (sg560125.2.1 (5 * Gp + Gm) 2).toInt = (σ.2.1 (5 * Gp + Gm) 2).toInt := by rw [wl]
  refine wq_gen (fun Qz hQz => ?_)
  have hLP560126 : ∀ (n k560126 : Nat) (Ia560126 : Nat → Nat → Int32) (Qa560126 : Nat → Nat → Option Nat) (Ja560126 : Nat → Nat → Int32) (H : Heap) (locs : List Loc) (ls : Array Slot), k560126 + n = 5 → ((oTn sg560125 (5 * Gp + Gn) (5 * Gp + Gm) k560126).2 = nI k560126) → REP v pa ra L K N T Ia560126 Qa560126 Ja560126 kx ((oTn sg560125 (5 * Gp + Gn) (5 * Gp + Gm) k560126).1) → va_P (dC, dI) vwCl (va_pl L (pF cy K N T Ia560126 Qa560126 Ja560126)) H → va_D A (va_pl L (pF cy K N T Ia560126 Qa560126 Ja560126)) → va_S A s.heap H locs → lv_has ls 3 [(2, .int (nI k560126)), (0, .ref (ra (5 * Gp + Gn))), (1, .ref (ra (5 * Gp + Gm)))] → W p l e (headSpec wsX4_fetchFrom ({ frames := 2, cells := 0, slots := 0, locals := 43 })).room s m ([.ref (ra (5 * Gp + Gn)), .ref (ra (5 * Gp + Gm))] : List Value).toArray below meth c H locs 0 0 Qz (F0 m 10 ls []) := by
    intro n
    induction n with
    | zero =>
      intro k560126  Ia560126 Qa560126 Ja560126 H locs ls hkn560126 hiv560126 hE hP hD hS hl
      have hkN560126 : k560126 = 5 := by omega
      have hC := hE.ct
      have hR : RS v Ia560126 Qa560126 Ja560126 Ia560126 Qa560126 Ja560126 := RS.rf
      have hfr := oTn_fr (τ := sg560125) (F := (5 * Gp + Gn)) (l := (5 * Gp + Gm)) (by omega) (by omega) (by omega) (by omega) k560126
      have hl9 : lvj (oTn sg560125 (5 * Gp + Gn) (5 * Gp + Gm) k560126).1 Gp Gn := by unfold lvj; rw [hfr.1]; exact hl9
      have hlm : lvj (oTn sg560125 (5 * Gp + Gn) (5 * Gp + Gm) k560126).1 Gp Gm := by unfold lvj; rw [hfr.1]; exact hlm
      have al := (hfr.2.1 (5 * Gp + Gm) (by omega)).1
      have x1 : ((oTn sg560125 (5 * Gp + Gn) (5 * Gp + Gm) k560126).1.2.1 (5 * Gp + Gm) 1).toInt = (sg560125.2.1 (5 * Gp + Gm) 1).toInt := by rw [al]
      have x2 : ((oTn sg560125 (5 * Gp + Gn) (5 * Gp + Gm) k560126).1.2.1 (5 * Gp + Gm) 2).toInt = (sg560125.2.1 (5 * Gp + Gm) 2).toInt := by rw [al]
      have x3 : ((oTn sg560125 (5 * Gp + Gn) (5 * Gp + Gm) k560126).1.2.1 (5 * Gp + Gn) 1).toInt = (sg560125.2.1 (5 * Gp + Gn) 1).toInt := by rw [hfr.2.2.1 1 (by decide)]
      obtain ⟨x4, x5⟩ := hfr.2.2.2
      have hNm : LN ((oTn sg560125 (5 * Gp + Gn) (5 * Gp + Gm) k560126).1.2.1 (5 * Gp + Gm)) := ⟨by omega, by omega, by omega, by omega⟩
      have hN9 : LN ((oTn sg560125 (5 * Gp + Gn) (5 * Gp + Gm) k560126).1.2.1 (5 * Gp + Gn)) := ⟨by omega, by omega, by omega, by omega⟩
      refine lv_iload_n hx hb dX4_fetchFrom_10 rfl (lv_at hl 0 rfl) ?_
      refine lv_iconst (v := 5) hx hb dX4_fetchFrom_11 (by decide) ?_
      refine lv_icmp_ge (tgt := 44) hx hb dX4_fetchFrom_12 (by decide) (fun c560127 => ?_) (fun c560127 => ?_)
      rotate_left
      · exact absurd (by rw [hkN560126]; decide) c560127
      refine lv_aload_n hx hb dX4_fetchFrom_44 rfl (lv_at hl 1 rfl) ?_
      refine lv_aload_n hx hb dX4_fetchFrom_45 rfl (lv_at hl 2 rfl) ?_
      obtain ⟨j560128, hj560128⟩ := pG_4 (cy := cy) (N := N) (T := T) (I := Ia560126) (Q := Qa560126) (J := Ja560126) (hE.rL hp hm hlm).1 (hE.rL hp hm hlm).2
      refine va_get (D := (dC, dI)) (ci := 4) (v := .int (Ia560126 (ra (5 * Gp + Gm)) 3)) (C := RX4) (T := TX4) (N := 7) hx hb hts hi4 hown hK hP j560128 hj560128 rfl 3 (by decide) (hts (.fieldLink RX4 24 "TallyLogs$Replica" "hw" "I") (by decide +kernel)) (fun _ h9 => h9) rfl dX4_fetchFrom_46 ?_
      refine lv_topi (fun x560129 ex560129 => ?_)
      have sx560129 : x560129 = ((oTn sg560125 (5 * Gp + Gn) (5 * Gp + Gm) k560126).1).2.1 (5 * Gp + Gm) 3 := ex560129.trans (hE.g hp hm hlm (by decide) (by decide) (by decide))
      have ux560129 := sx560129
      have tx560129 : x560129.toInt = (((oTn sg560125 (5 * Gp + Gn) (5 * Gp + Gm) k560126).1).2.1 (5 * Gp + Gm) 3).toInt := congrArg Int32.toInt sx560129
      refine lv_aload_n hx hb dX4_fetchFrom_49 rfl (lv_at hl 1 rfl) ?_
      obtain ⟨j560130, hj560130⟩ := pG_4 (cy := cy) (N := N) (T := T) (I := Ia560126) (Q := Qa560126) (J := Ja560126) (hE.rL hp hn hl9).1 (hE.rL hp hn hl9).2
      refine va_get (D := (dC, dI)) (ci := 4) (v := .int (Ia560126 (ra (5 * Gp + Gn)) 2)) (C := RX4) (T := TX4) (N := 7) hx hb hts hi4 hown hK hP j560130 hj560130 rfl 2 (by decide) (hts (.fieldLink RX4 21 "TallyLogs$Replica" "end" "I") (by decide +kernel)) (fun _ h9 => h9) rfl dX4_fetchFrom_50 ?_
      refine lv_topi (fun x560131 ex560131 => ?_)
      have sx560131 : x560131 = ((oTn sg560125 (5 * Gp + Gn) (5 * Gp + Gm) k560126).1).2.1 (5 * Gp + Gn) 2 := ex560131.trans (hE.g hp hn hl9 (by decide) (by decide) (by decide))
      have ux560131 := sx560131
      have tx560131 : x560131.toInt = (((oTn sg560125 (5 * Gp + Gn) (5 * Gp + Gm) k560126).1).2.1 (5 * Gp + Gn) 2).toInt := congrArg Int32.toInt sx560131
      refine va_mmin hx hb (by rw [hml]; exact hl.1.symm) hown (hts (.methodLink RX4 49 Lib.Math.min.name) (by decide +kernel)) (hts (.static Lib.Math.min.name) (by decide +kernel)) (hts (.initialized "java/lang/Math") (by decide +kernel)) (hts _ (List.mem_of_getElem? (i := 7) rfl)) (Nat.le_of_ble_eq_true rfl) (Nat.le_of_ble_eq_true rfl) (Nat.le_of_ble_eq_true rfl) (Nat.le_of_ble_eq_true rfl) dX4_fetchFrom_53 ?_
      refine lv_topi (fun z560132 ez560132 => ?_)
      have tz560132 : z560132.toInt = min x560129.toInt x560131.toInt := xmin_t ez560132
      obtain ⟨j560133, hj560133⟩ := pG_4 (cy := cy) (N := N) (T := T) (I := Ia560126) (Q := Qa560126) (J := Ja560126) (hE.rL hp hn hl9).1 (hE.rL hp hn hl9).2
      have hDo := hD
      refine va_put (D := (dC, dI)) (ci := 4) (v := .int z560132) (ty := .int) (C := RX4) (T := TX4) (N := 7) hx hb hts hi4 tyX4 tyX4_ok nmX4 hown hK hP hD hS j560133 hj560133 rfl 3 (by decide) (hts (.fieldLink RX4 24 "TallyLogs$Replica" "hw" "I") (by decide +kernel)) (fun _ h9 => h9) rfl (by decide +kernel) rfl rfl (Nat.le_of_ble_eq_true rfl) dX4_fetchFrom_56 (fun H locs hP hD hS => ?_)
      have hP := Eq.mp (congrArg (fun w => va_P (dC, dI) vwCl w H) (pP_4_3 (x := z560132) hDo (hE.rL hp hn hl9).1 (hE.rL hp hn hl9).2 hj560133)) hP
      obtain ⟨I560134, eI560134⟩ : ∃ z, z = p2 Ia560126 (ra (5 * Gp + Gn)) 3 z560132 := ⟨_, rfl⟩
      rw [← eI560134] at hP
      have hR : RS v I560134 Qa560126 Ja560126 I560134 Qa560126 Ja560126 := RS.rf
      obtain ⟨sg560135, esg560135⟩ : ∃ z, z = sG ((oTn sg560125 (5 * Gp + Gn) (5 * Gp + Gm) k560126).1) (5 * Gp + Gn) 3 z560132 := ⟨_, rfl⟩
      have hE : REP v pa ra L K N T I560134 Qa560126 Ja560126 kx sg560135 := by rw [esg560135, eI560134]; exact hE.wr hp hn hl9 (by decide) (by decide) (fun _ _ z => z)
      have hl9 : lvj sg560135 Gp Gn := by rw [esg560135]; exact hl9
      have hlm : lvj sg560135 Gp Gm := by rw [esg560135]; exact hlm
      have hC : CT v L K N T I560134 Qa560126 := by rw [eI560134]; exact hC.pi (by rw [(hE.rL hp hn hl9).2]; decide)
      have hD : va_D A (va_pl L (pF cy K N T I560134 Qa560126 Ja560126)) := pD hDo
      refine lv_iload_n hx hb dX4_fetchFrom_59 rfl (lv_at hl 0 rfl) ?_
      rw [hQz]
      exact W.iret (v := (nI k560126)) hx hb hr (fun t ht hW => ⟨⟨(nI k560126), (I560134, Qa560126, Ja560126), rfl, ⟨by show REP v pa ra L K N T I560134 Qa560126 Ja560126 kx (oFf σ (5 * Gp + Gn) (5 * Gp + Gm)).1; have h5 : oTn sg560125 (5 * Gp + Gn) (5 * Gp + Gm) 5 = oTn sg560125 (5 * Gp + Gn) (5 * Gp + Gm) k560126 := (by rw [hkN560126]); have h9 : (oFf σ (5 * Gp + Gn) (5 * Gp + Gm)).1 = sg560135 := (by unfold oFf; rw [← esg560125, h5, esg560135, ez560132, sx560129, sx560131] <;> simp only [imn] <;> rfl); rw [h9]; exact hE, by show _ = _; have h5 : oTn sg560125 (5 * Gp + Gn) (5 * Gp + Gm) 5 = oTn sg560125 (5 * Gp + Gn) (5 * Gp + Gm) k560126 := (by rw [hkN560126]); unfold oFf; rw [← esg560125, h5]; exact hiv560126.symm⟩, by rw [ht]; exact hP, va_K.moved hW.alike hK, hD⟩, hS.F ht⟩) hS.2.2 dX4_fetchFrom_60
    | succ n ih560126 =>
      intro k560126  Ia560126 Qa560126 Ja560126 H locs ls hkn560126 hiv560126 hE hP hD hS hl
      have hk9560126 : k560126 < 5 := by omega
      have hkc560126 : (nI k560126).toNatClampNeg = k560126 := nI_clamp (by omega)
      have hki560126 : vp_in (nI k560126) 5 := nI_in (by omega) (by decide)
      have hC := hE.ct
      have hR : RS v Ia560126 Qa560126 Ja560126 Ia560126 Qa560126 Ja560126 := RS.rf
      have hfr := oTn_fr (τ := sg560125) (F := (5 * Gp + Gn)) (l := (5 * Gp + Gm)) (by omega) (by omega) (by omega) (by omega) k560126
      have hl9 : lvj (oTn sg560125 (5 * Gp + Gn) (5 * Gp + Gm) k560126).1 Gp Gn := by unfold lvj; rw [hfr.1]; exact hl9
      have hlm : lvj (oTn sg560125 (5 * Gp + Gn) (5 * Gp + Gm) k560126).1 Gp Gm := by unfold lvj; rw [hfr.1]; exact hlm
      have al := (hfr.2.1 (5 * Gp + Gm) (by omega)).1
      have x1 : ((oTn sg560125 (5 * Gp + Gn) (5 * Gp + Gm) k560126).1.2.1 (5 * Gp + Gm) 1).toInt = (sg560125.2.1 (5 * Gp + Gm) 1).toInt := by rw [al]
      have x2 : ((oTn sg560125 (5 * Gp + Gn) (5 * Gp + Gm) k560126).1.2.1 (5 * Gp + Gm) 2).toInt = (sg560125.2.1 (5 * Gp + Gm) 2).toInt := by rw [al]
      have x3 : ((oTn sg560125 (5 * Gp + Gn) (5 * Gp + Gm) k560126).1.2.1 (5 * Gp + Gn) 1).toInt = (sg560125.2.1 (5 * Gp + Gn) 1).toInt := by rw [hfr.2.2.1 1 (by decide)]
      obtain ⟨x4, x5⟩ := hfr.2.2.2
      have hNm : LN ((oTn sg560125 (5 * Gp + Gn) (5 * Gp + Gm) k560126).1.2.1 (5 * Gp + Gm)) := ⟨by omega, by omega, by omega, by omega⟩
      have hN9 : LN ((oTn sg560125 (5 * Gp + Gn) (5 * Gp + Gm) k560126).1.2.1 (5 * Gp + Gn)) := ⟨by omega, by omega, by omega, by omega⟩
      refine lv_iload_n hx hb dX4_fetchFrom_10 rfl (lv_at hl 0 rfl) ?_
      refine lv_iconst (v := 5) hx hb dX4_fetchFrom_11 (by decide) ?_
      refine lv_icmp_ge (tgt := 44) hx hb dX4_fetchFrom_12 (by decide) (fun c560136 => ?_) (fun c560136 => ?_)
      · exact absurd c560136 (nI_ge (b := 5) (by omega) (by decide))
      refine lv_aload_n hx hb dX4_fetchFrom_15 rfl (lv_at hl 1 rfl) ?_
      obtain ⟨j560137, hj560137⟩ := pG_4 (cy := cy) (N := N) (T := T) (I := Ia560126) (Q := Qa560126) (J := Ja560126) (hE.rL hp hn hl9).1 (hE.rL hp hn hl9).2
      refine va_get (D := (dC, dI)) (ci := 4) (v := .int (Ia560126 (ra (5 * Gp + Gn)) 2)) (C := RX4) (T := TX4) (N := 7) hx hb hts hi4 hown hK hP j560137 hj560137 rfl 2 (by decide) (hts (.fieldLink RX4 21 "TallyLogs$Replica" "end" "I") (by decide +kernel)) (fun _ h9 => h9) rfl dX4_fetchFrom_16 ?_
      refine lv_topi (fun x560138 ex560138 => ?_)
      have sx560138 : x560138 = ((oTn sg560125 (5 * Gp + Gn) (5 * Gp + Gm) k560126).1).2.1 (5 * Gp + Gn) 2 := ex560138.trans (hE.g hp hn hl9 (by decide) (by decide) (by decide))
      have ux560138 := sx560138
      have tx560138 : x560138.toInt = (((oTn sg560125 (5 * Gp + Gn) (5 * Gp + Gm) k560126).1).2.1 (5 * Gp + Gn) 2).toInt := congrArg Int32.toInt sx560138
      refine lv_aload_n hx hb dX4_fetchFrom_19 rfl (lv_at hl 2 rfl) ?_
      obtain ⟨j560139, hj560139⟩ := pG_4 (cy := cy) (N := N) (T := T) (I := Ia560126) (Q := Qa560126) (J := Ja560126) (hE.rL hp hm hlm).1 (hE.rL hp hm hlm).2
      refine va_get (D := (dC, dI)) (ci := 4) (v := .int (Ia560126 (ra (5 * Gp + Gm)) 2)) (C := RX4) (T := TX4) (N := 7) hx hb hts hi4 hown hK hP j560139 hj560139 rfl 2 (by decide) (hts (.fieldLink RX4 21 "TallyLogs$Replica" "end" "I") (by decide +kernel)) (fun _ h9 => h9) rfl dX4_fetchFrom_20 ?_
      refine lv_topi (fun x560140 ex560140 => ?_)
      have sx560140 : x560140 = ((oTn sg560125 (5 * Gp + Gn) (5 * Gp + Gm) k560126).1).2.1 (5 * Gp + Gm) 2 := ex560140.trans (hE.g hp hm hlm (by decide) (by decide) (by decide))
      have ux560140 := sx560140
      have tx560140 : x560140.toInt = (((oTn sg560125 (5 * Gp + Gn) (5 * Gp + Gm) k560126).1).2.1 (5 * Gp + Gm) 2).toInt := congrArg Int32.toInt sx560140
      refine lv_icmp_ge (tgt := 44) hx hb dX4_fetchFrom_23 (by decide) (fun c560141 => ?_) (fun c560141 => ?_)
      · have kc560141 : x560140.toInt ≤ x560138.toInt := by have h9 := c560141; rw [xk_le] at h9; exact h9
        refine lv_aload_n hx hb dX4_fetchFrom_44 rfl (lv_at hl 1 rfl) ?_
        refine lv_aload_n hx hb dX4_fetchFrom_45 rfl (lv_at hl 2 rfl) ?_
        obtain ⟨j560142, hj560142⟩ := pG_4 (cy := cy) (N := N) (T := T) (I := Ia560126) (Q := Qa560126) (J := Ja560126) (hE.rL hp hm hlm).1 (hE.rL hp hm hlm).2
        refine va_get (D := (dC, dI)) (ci := 4) (v := .int (Ia560126 (ra (5 * Gp + Gm)) 3)) (C := RX4) (T := TX4) (N := 7) hx hb hts hi4 hown hK hP j560142 hj560142 rfl 3 (by decide) (hts (.fieldLink RX4 24 "TallyLogs$Replica" "hw" "I") (by decide +kernel)) (fun _ h9 => h9) rfl dX4_fetchFrom_46 ?_
        refine lv_topi (fun x560143 ex560143 => ?_)
        have sx560143 : x560143 = ((oTn sg560125 (5 * Gp + Gn) (5 * Gp + Gm) k560126).1).2.1 (5 * Gp + Gm) 3 := ex560143.trans (hE.g hp hm hlm (by decide) (by decide) (by decide))
        have ux560143 := sx560143
        have tx560143 : x560143.toInt = (((oTn sg560125 (5 * Gp + Gn) (5 * Gp + Gm) k560126).1).2.1 (5 * Gp + Gm) 3).toInt := congrArg Int32.toInt sx560143
        refine lv_aload_n hx hb dX4_fetchFrom_49 rfl (lv_at hl 1 rfl) ?_
        obtain ⟨j560144, hj560144⟩ := pG_4 (cy := cy) (N := N) (T := T) (I := Ia560126) (Q := Qa560126) (J := Ja560126) (hE.rL hp hn hl9).1 (hE.rL hp hn hl9).2
        refine va_get (D := (dC, dI)) (ci := 4) (v := .int (Ia560126 (ra (5 * Gp + Gn)) 2)) (C := RX4) (T := TX4) (N := 7) hx hb hts hi4 hown hK hP j560144 hj560144 rfl 2 (by decide) (hts (.fieldLink RX4 21 "TallyLogs$Replica" "end" "I") (by decide +kernel)) (fun _ h9 => h9) rfl dX4_fetchFrom_50 ?_
        refine lv_topi (fun x560145 ex560145 => ?_)
        have sx560145 : x560145 = ((oTn sg560125 (5 * Gp + Gn) (5 * Gp + Gm) k560126).1).2.1 (5 * Gp + Gn) 2 := ex560145.trans (hE.g hp hn hl9 (by decide) (by decide) (by decide))
        have ux560145 := sx560145
        have tx560145 : x560145.toInt = (((oTn sg560125 (5 * Gp + Gn) (5 * Gp + Gm) k560126).1).2.1 (5 * Gp + Gn) 2).toInt := congrArg Int32.toInt sx560145
        refine va_mmin hx hb (by rw [hml]; exact hl.1.symm) hown (hts (.methodLink RX4 49 Lib.Math.min.name) (by decide +kernel)) (hts (.static Lib.Math.min.name) (by decide +kernel)) (hts (.initialized "java/lang/Math") (by decide +kernel)) (hts _ (List.mem_of_getElem? (i := 7) rfl)) (Nat.le_of_ble_eq_true rfl) (Nat.le_of_ble_eq_true rfl) (Nat.le_of_ble_eq_true rfl) (Nat.le_of_ble_eq_true rfl) dX4_fetchFrom_53 ?_
        refine lv_topi (fun z560146 ez560146 => ?_)
        have tz560146 : z560146.toInt = min x560143.toInt x560145.toInt := xmin_t ez560146
        obtain ⟨j560147, hj560147⟩ := pG_4 (cy := cy) (N := N) (T := T) (I := Ia560126) (Q := Qa560126) (J := Ja560126) (hE.rL hp hn hl9).1 (hE.rL hp hn hl9).2
        have hDo := hD
        refine va_put (D := (dC, dI)) (ci := 4) (v := .int z560146) (ty := .int) (C := RX4) (T := TX4) (N := 7) hx hb hts hi4 tyX4 tyX4_ok nmX4 hown hK hP hD hS j560147 hj560147 rfl 3 (by decide) (hts (.fieldLink RX4 24 "TallyLogs$Replica" "hw" "I") (by decide +kernel)) (fun _ h9 => h9) rfl (by decide +kernel) rfl rfl (Nat.le_of_ble_eq_true rfl) dX4_fetchFrom_56 (fun H locs hP hD hS => ?_)
        have hP := Eq.mp (congrArg (fun w => va_P (dC, dI) vwCl w H) (pP_4_3 (x := z560146) hDo (hE.rL hp hn hl9).1 (hE.rL hp hn hl9).2 hj560147)) hP
        obtain ⟨I560148, eI560148⟩ : ∃ z, z = p2 Ia560126 (ra (5 * Gp + Gn)) 3 z560146 := ⟨_, rfl⟩
        rw [← eI560148] at hP
        have hR : RS v I560148 Qa560126 Ja560126 I560148 Qa560126 Ja560126 := RS.rf
        obtain ⟨sg560149, esg560149⟩ : ∃ z, z = sG ((oTn sg560125 (5 * Gp + Gn) (5 * Gp + Gm) k560126).1) (5 * Gp + Gn) 3 z560146 := ⟨_, rfl⟩
        have hE : REP v pa ra L K N T I560148 Qa560126 Ja560126 kx sg560149 := by rw [esg560149, eI560148]; exact hE.wr hp hn hl9 (by decide) (by decide) (fun _ _ z => z)
        have hl9 : lvj sg560149 Gp Gn := by rw [esg560149]; exact hl9
        have hlm : lvj sg560149 Gp Gm := by rw [esg560149]; exact hlm
        have hC : CT v L K N T I560148 Qa560126 := by rw [eI560148]; exact hC.pi (by rw [(hE.rL hp hn hl9).2]; decide)
        have hD : va_D A (va_pl L (pF cy K N T I560148 Qa560126 Ja560126)) := pD hDo
        refine lv_iload_n hx hb dX4_fetchFrom_59 rfl (lv_at hl 0 rfl) ?_
        rw [hQz]
        exact W.iret (v := (nI k560126)) hx hb hr (fun t ht hW => ⟨⟨(nI k560126), (I560148, Qa560126, Ja560126), rfl, ⟨by show REP v pa ra L K N T I560148 Qa560126 Ja560126 kx (oFf σ (5 * Gp + Gn) (5 * Gp + Gm)).1; have h5 : oTn sg560125 (5 * Gp + Gn) (5 * Gp + Gm) 5 = oTn sg560125 (5 * Gp + Gn) (5 * Gp + Gm) k560126 := (by have k9 := oTn_st9 (τ := sg560125) (F := (5 * Gp + Gn)) (l := (5 * Gp + Gm)) (k := k560126) (by rw [xk_le]; have k8 := c560141; rw [xk_le] at k8; omega) (5 - k560126); rw [show k560126 + (5 - k560126) = 5 by omega] at k9; exact k9); have h9 : (oFf σ (5 * Gp + Gn) (5 * Gp + Gm)).1 = sg560149 := (by unfold oFf; rw [← esg560125, h5, esg560149, ez560146, sx560143, sx560145] <;> simp only [imn] <;> rfl); rw [h9]; exact hE, by show _ = _; have h5 : oTn sg560125 (5 * Gp + Gn) (5 * Gp + Gm) 5 = oTn sg560125 (5 * Gp + Gn) (5 * Gp + Gm) k560126 := (by have k9 := oTn_st9 (τ := sg560125) (F := (5 * Gp + Gn)) (l := (5 * Gp + Gm)) (k := k560126) (by rw [xk_le]; have k8 := c560141; rw [xk_le] at k8; omega) (5 - k560126); rw [show k560126 + (5 - k560126) = 5 by omega] at k9; exact k9); unfold oFf; rw [← esg560125, h5]; exact hiv560126.symm⟩, by rw [ht]; exact hP, va_K.moved hW.alike hK, hD⟩, hS.F ht⟩) hS.2.2 dX4_fetchFrom_60
      · have kc560141 : ¬ (x560140.toInt ≤ x560138.toInt) := by have h9 := c560141; rw [xk_le] at h9; exact h9
        refine lv_aload_n hx hb dX4_fetchFrom_26 rfl (lv_at hl 1 rfl) ?_
        refine lv_aload_n hx hb dX4_fetchFrom_27 rfl (lv_at hl 2 rfl) ?_
        refine lv_aload_n hx hb dX4_fetchFrom_28 rfl (lv_at hl 1 rfl) ?_
        obtain ⟨j560150, hj560150⟩ := pG_4 (cy := cy) (N := N) (T := T) (I := Ia560126) (Q := Qa560126) (J := Ja560126) (hE.rL hp hn hl9).1 (hE.rL hp hn hl9).2
        refine va_get (D := (dC, dI)) (ci := 4) (v := .int (Ia560126 (ra (5 * Gp + Gn)) 2)) (C := RX4) (T := TX4) (N := 7) hx hb hts hi4 hown hK hP j560150 hj560150 rfl 2 (by decide) (hts (.fieldLink RX4 21 "TallyLogs$Replica" "end" "I") (by decide +kernel)) (fun _ h9 => h9) rfl dX4_fetchFrom_29 ?_
        refine lv_topi (fun x560151 ex560151 => ?_)
        have sx560151 : x560151 = ((oTn sg560125 (5 * Gp + Gn) (5 * Gp + Gm) k560126).1).2.1 (5 * Gp + Gn) 2 := ex560151.trans (hE.g hp hn hl9 (by decide) (by decide) (by decide))
        have ux560151 := sx560151
        have tx560151 : x560151.toInt = (((oTn sg560125 (5 * Gp + Gn) (5 * Gp + Gm) k560126).1).2.1 (5 * Gp + Gn) 2).toInt := congrArg Int32.toInt sx560151
        obtain ⟨j560153, hj560153⟩ := pG_4 (cy := cy) (N := N) (T := T) (I := Ia560126) (Q := Qa560126) (J := Ja560126) (hE.rL hp hm hlm).1 (hE.rL hp hm hlm).2
        refine va_csq (W.runV (As := [.int x560151]) (rest := [.ref (ra (5 * Gp + Gn))]) ⟨hx, hb, hml, hown, hts⟩ (g_X4_entryAt l dC dI cy v L K N T Ia560126 Qa560126 Ja560126 pa ra kx ((oTn sg560125 (5 * Gp + Gn) (5 * Gp + Gm) k560126).1) Gp Gm x560151 hE hp hm hlm hNm) (cwV 1 hts gX4_fetchFrom_X4_entryAt rfl rfl rfl (by decide +kernel) ⟨Nat.le_of_ble_eq_true rfl, Nat.le_of_ble_eq_true rfl⟩) ⟨pb_blind, va_recv hK hP (ci := 4) (q0 := j560153) rfl hj560153, fun U hU hW => ⟨rfl, pb_pre hP hK hN hU hW⟩⟩ rfl rfl hl.1 rfl (lv_room (Nat.le_of_ble_eq_true rfl)) dX4_fetchFrom_32 ⟨Nat.le_of_ble_eq_true rfl, Nat.le_of_ble_eq_true rfl⟩) (fun r560152 hr560152 => ?_)
        rcases hr560152 with ⟨hno560154, rfl⟩ | ⟨b560154, rfl, hb560154, hra560154, hbf560154⟩
        · refine W.eq (g2 := F0 m 35 ls [.null, .ref (ra (5 * Gp + Gn))]) rfl ?_
          exact absurd ⟨by omega, by omega⟩ hno560154
        · refine W.eq (g2 := F0 m 35 ls [.ref b560154, .ref (ra (5 * Gp + Gn))]) rfl ?_
          obtain ⟨hra560154a, hra560154b⟩ := id hra560154
          obtain ⟨j560155, hj560155⟩ := pG_4 (cy := cy) (N := N) (T := T) (I := Ia560126) (Q := Qa560126) (J := Ja560126) (hE.rL hp hn hl9).1 (hE.rL hp hn hl9).2
          have hFc := pfree hD hS hA
          refine va_callv (va_runV (As := [.ref b560154]) (rest := []) ⟨hx, hb, hml, hown, hts⟩ (g_X4_append l dC dI cy v L K N T Ia560126 Qa560126 Ja560126 H.size pa ra kx ((oTn sg560125 (5 * Gp + Gn) (5 * Gp + Gm) k560126).1) Gp Gn b560154 (((oTn sg560125 (5 * Gp + Gn) (5 * Gp + Gm) k560126).1).2.2 (5 * Gp + Gm) x560151.toNatClampNeg) hE hp hn hl9 hN9 hb560154.1 hb560154.2 (by omega) hbf560154) (cwV 1 hts gX4_fetchFrom_X4_append rfl rfl rfl (by decide +kernel) ⟨Nat.le_of_ble_eq_true rfl, Nat.le_of_ble_eq_true rfl⟩) ⟨pw_blind, va_recv hK hP (ci := 4) (q0 := j560155) rfl hj560155, fun U hU hW => ⟨rfl, pw_pre hP hK hN hD hU hW⟩⟩ rfl rfl hl.1 rfl (lv_room (Nat.le_of_ble_eq_true rfl)) dX4_fetchFrom_35 ⟨Nat.le_of_ble_eq_true rfl, Nat.le_of_ble_eq_true rfl⟩) hS (fun q _ h => hFc q h) hFc (fun d9 t H1 locs ht hvm hw hB hz1 hk1 hS => ?_)
          obtain ⟨I560156, Q560156, J560156⟩ := d9
          obtain ⟨hP, hK1, hD1⟩ := hB
          rw [ht] at hP
          have hD := hD1.weaken (fun _ _ _ h => hFc _ h)
          generalize H1 = H at hP hS ⊢
          have hP : va_P (dC, dI) vwCl (va_pl L (pF cy K N T I560156 Q560156 J560156)) H := hP
          have hD : va_D A (va_pl L (pF cy K N T I560156 Q560156 J560156)) := hD
          have hR : RS v I560156 Q560156 J560156 I560156 Q560156 J560156 := RS.rf
          obtain ⟨sg560158, esg560158⟩ : ∃ z, z = oTk ((oTn sg560125 (5 * Gp + Gn) (5 * Gp + Gm) k560126).1) (5 * Gp + Gn) (5 * Gp + Gm) (((oTn sg560125 (5 * Gp + Gn) (5 * Gp + Gm) k560126).1).2.1 (5 * Gp + Gn) 2) := ⟨_, rfl⟩
          have hE : REP v pa ra L K N T I560156 Q560156 J560156 kx sg560158 := by rw [esg560158]; have h9 := hw; rw [sx560151] at h9; exact h9
          have hC := hE.ct
          have h1sg560158 : sg560158.1 = ((oTn sg560125 (5 * Gp + Gn) (5 * Gp + Gm) k560126).1).1 := by rw [esg560158]; exact rfl
          have hl9 : lvj sg560158 Gp Gn := by unfold lvj; rw [h1sg560158]; exact hl9
          have hlm : lvj sg560158 Gp Gm := by unfold lvj; rw [h1sg560158]; exact hlm
          obtain ⟨v560159, ev560159⟩ : ∃ y : Int32, y = (nI k560126) + Int32.ofInt 1 := ⟨_, rfl⟩
          refine lv_iinc (v := v560159) (lv' := [(2, .int v560159), (0, .ref (ra (5 * Gp + Gn))), (1, .ref (ra (5 * Gp + Gm)))]) hx hb dX4_fetchFrom_38 hl (k := 0) rfl ev560159.symm (by decide) rfl (fun ls hl => ?_)
          refine lv_goto (tgt := 10) hx hb dX4_fetchFrom_41 (by decide) ?_
          obtain rfl : v560159 = nI (k560126 + 1) := ev560159.trans (nI_add k560126 1)
          have ho9 : oTn sg560125 (5 * Gp + Gn) (5 * Gp + Gm) (k560126 + 1) = (sg560158, nI (k560126 + 1)) := by rw [oTn_go (by rw [xk_le]; have k9 := c560141; rw [xk_le] at k9; omega), ← esg560158, hiv560126, ← nI_add]; rfl
          exact ih560126 (k560126 + 1)  _ _ _ _ _ _ (by omega) (by rw [ho9]) (by rw [ho9]; exact hE) hP hD hS (lv_sub hl [0, 1, 2] rfl)
  exact hLP560126 5 0  _ _ _ _ _ _ rfl (rfl) hE hP hD hS (lv_sub hl [0, 1, 2] rfl)
