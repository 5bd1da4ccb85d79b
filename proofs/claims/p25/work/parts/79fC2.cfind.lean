set_option maxHeartbeats 4000000 in
set_option maxRecDepth 100000 in
/-- Replica.offsetOf, exactly -/
theorem g_X4_offsetOf (l : Launch) (dC : Nat → ClassId) (dI : Nat → Nat → Nat) (cy : Nat → ClassId) (v : Nat → Nat) (L : List Nat) (K N : Nat → Nat) (T : Nat → Nat → Nat) (I : Nat → Nat → Int32) (Q : Nat → Nat → Option Nat) (J : Nat → Nat → Int32) (pa ra : Nat → Nat) (kx : Nat → Prop) (σ : SG) (Gp Gn : Nat) (ka kb sq : Int32) (hE : REP v pa ra L K N T I Q J kx σ) (hp : Gp < 4) (hn : Gn < 5) (hl9 : lvj σ Gp Gn) (hN9 : LN (σ.2.1 (5 * Gp + Gn))) : Met l yX4_offsetOf wsX4_offsetOf ({ frames := 2, cells := 0, slots := 0, locals := 43 }) (va_Pc [.ref (ra (5 * Gp + Gn)), .int ka, .int kb, .int sq] (pB dC dI cy L (pF cy K N T I Q J))) (vp_Si (fun r => r = oLv (fU (pSq σ (5 * Gp + Gn) ka kb sq) (ze σ (5 * Gp + Gn) - zb σ (5 * Gp + Gn)) (zb σ (5 * Gp + Gn))))) 0 0 (fun _ => False) := by
  refine Met.ofW (cc := cX4_offsetOf) (maxL := 6) (ret := (some .int)) (by decide) rfl ?_
  intro p e s m args below meth c s₁ B hml hv
  obtain ⟨rfl, hP, hK, hN⟩ := hv
  have hx := B.exec
  have hb := B.bytes
  have hr := B.returns
  have hts := atoms_spec (ws := wsX4_offsetOf) B.pre
  have hown : s.vm.findClass RX4 = some m.cls := findClass_of_methodNamed B.named
  have hlocks := B.notSynchronized
  have hi4 : ∀ w ∈ wsX40, w ∈ wsX4_offsetOf := by decide +kernel
  have hi0 : ∀ w ∈ wsX00, w ∈ wsX4_offsetOf := by decide +kernel
  have hl := lv_entry ([.ref (ra (5 * Gp + Gn)), .int ka, .int kb, .int sq]) (n := 6) (Nat.le_of_ble_eq_true rfl)
  rw [lg_entry_eq]
  generalize (lg_sl ([.ref (ra (5 * Gp + Gn)), .int ka, .int kb, .int sq]) ++ List.replicate (6 - (lg_sl ([.ref (ra (5 * Gp + Gn)), .int ka, .int kb, .int sq])).length) Slot.unset).toArray = ls at hl ⊢
  have hl : lv_has ls 6 [(0, .ref (ra (5 * Gp + Gn))), (1, .int ka), (2, .int kb), (3, .int sq)] := hl
  have hn28 := hN.1
  have hn30 := hN.2.1
  have hn37 := hN.2.2.1
  have hC := hE.ct
  obtain ⟨n1g, n2g, n3g, n4g⟩ := id hN9
  refine lv_aload_n hx hb dX4_offsetOf_0 rfl (lv_at hl 0 rfl) ?_
  obtain ⟨j510001, hj510001⟩ := pG_4 (cy := cy) (N := N) (T := T) (I := I) (Q := Q) (J := J) (hE.rL hp hn hl9).1 (hE.rL hp hn hl9).2
  refine va_get (D := (dC, dI)) (ci := 4) (v := .int (I (ra (5 * Gp + Gn)) 1)) (C := RX4) (T := TX4) (N := 7) hx hb hts hi4 hown hK hP j510001 hj510001 rfl 1 (by decide) (hts (.fieldLink RX4 17 "TallyLogs$Replica" "start" "I") (by decide +kernel)) (fun _ h9 => h9) rfl dX4_offsetOf_1 ?_
  refine lv_topi (fun x510002 ex510002 => ?_)
  have sx510002 : x510002 = σ.2.1 (5 * Gp + Gn) 1 := ex510002.trans (hE.g hp hn hl9 (by decide) (by decide) (by decide))
  have ux510002 := sx510002
  have tx510002 : x510002.toInt = (σ.2.1 (5 * Gp + Gn) 1).toInt := congrArg Int32.toInt sx510002
  refine lv_istore (lv' := [(4, .int x510002), (0, .ref (ra (5 * Gp + Gn))), (1, .int ka), (2, .int kb), (3, .int sq)]) hx hb dX4_offsetOf_4 hl (by decide) rfl (fun ls hl => ?_)
  refine wq_gen (fun Qz hQz => ?_)
  have hLP510003 : ∀ (n : Nat) (y510004 : Int32) (ls : Array Slot), ((σ.2.1 (5 * Gp + Gn) 2).toInt - y510004.toInt).toNat < n → 0 ≤ y510004.toInt → ((σ.2.1 (5 * Gp + Gn) 1).toInt ≤ y510004.toInt ∧ fU (pSq σ (5 * Gp + Gn) ka kb sq) (ze σ (5 * Gp + Gn) - y510004.toNatClampNeg) y510004.toNatClampNeg = fU (pSq σ (5 * Gp + Gn) ka kb sq) (ze σ (5 * Gp + Gn) - zb σ (5 * Gp + Gn)) (zb σ (5 * Gp + Gn))) → lv_has ls 6 [(4, .int y510004), (0, .ref (ra (5 * Gp + Gn))), (1, .int ka), (2, .int kb), (3, .int sq)] → W p l e (headSpec wsX4_offsetOf ({ frames := 2, cells := 0, slots := 0, locals := 43 })).room s m ([.ref (ra (5 * Gp + Gn)), .int ka, .int kb, .int sq] : List Value).toArray below meth c s.heap [] 0 0 Qz (F0 m 6 ls []) := by
    intro n
    induction n with
    | zero => intro y510004 ls hms; exact absurd hms (Nat.not_lt_zero _)
    | succ n ih510003 =>
      intro y510004 ls hms hnn510003 hiv510003 hl
      obtain ⟨hiw, _⟩ := id hiv510003
      refine lv_iload hx hb dX4_offsetOf_6 (lv_at hl 0 rfl) ?_
      refine lv_aload_n hx hb dX4_offsetOf_8 rfl (lv_at hl 1 rfl) ?_
      obtain ⟨j510005, hj510005⟩ := pG_4 (cy := cy) (N := N) (T := T) (I := I) (Q := Q) (J := J) (hE.rL hp hn hl9).1 (hE.rL hp hn hl9).2
      refine va_get (D := (dC, dI)) (ci := 4) (v := .int (I (ra (5 * Gp + Gn)) 2)) (C := RX4) (T := TX4) (N := 7) hx hb hts hi4 hown hK hP j510005 hj510005 rfl 2 (by decide) (hts (.fieldLink RX4 21 "TallyLogs$Replica" "end" "I") (by decide +kernel)) (fun _ h9 => h9) rfl dX4_offsetOf_9 ?_
      refine lv_topi (fun x510006 ex510006 => ?_)
      have sx510006 : x510006 = σ.2.1 (5 * Gp + Gn) 2 := ex510006.trans (hE.g hp hn hl9 (by decide) (by decide) (by decide))
      have ux510006 := sx510006
      have tx510006 : x510006.toInt = (σ.2.1 (5 * Gp + Gn) 2).toInt := congrArg Int32.toInt sx510006
      refine lv_icmp_ge (tgt := 56) hx hb dX4_offsetOf_12 (by decide) (fun c510007 => ?_) (fun c510007 => ?_)
      · have kc510007 : x510006.toInt ≤ y510004.toInt := by have h9 := c510007; rw [xk_le] at h9; exact h9
        refine lv_iconst (v := (-1)) hx hb dX4_offsetOf_56 (by decide) ?_
        rw [hQz]
        exact W.iret (v := (-1)) hx hb hr (fun t ht hW => ⟨(-1), rfl, by show _ = _; rw [← hiv510003.2, fU_end (ze_le (by omega))]; rfl, ht⟩) (fun _ h => by cases h) dX4_offsetOf_57
      · have kc510007 : ¬ (x510006.toInt ≤ y510004.toInt) := by have h9 := c510007; rw [xk_le] at h9; exact h9
        refine lv_aload_n hx hb dX4_offsetOf_15 rfl (lv_at hl 1 rfl) ?_
        refine lv_iload hx hb dX4_offsetOf_16 (lv_at hl 0 rfl) ?_
        obtain ⟨j510009, hj510009⟩ := pG_4 (cy := cy) (N := N) (T := T) (I := I) (Q := Q) (J := J) (hE.rL hp hn hl9).1 (hE.rL hp hn hl9).2
        refine va_csq (W.runV (As := [.int y510004]) (rest := []) ⟨hx, hb, hml, hown, hts⟩ (g_X4_entryAt l dC dI cy v L K N T I Q J pa ra kx σ Gp Gn y510004 hE hp hn hl9 hN9) (cwV 1 hts gX4_offsetOf_X4_entryAt rfl rfl rfl (by decide +kernel) ⟨Nat.le_of_ble_eq_true rfl, Nat.le_of_ble_eq_true rfl⟩) ⟨pb_blind, va_recv hK hP (ci := 4) (q0 := j510009) rfl hj510009, fun U hU hW => ⟨rfl, pb_pre hP hK hN hU hW⟩⟩ rfl rfl hl.1 rfl (lv_room (Nat.le_of_ble_eq_true rfl)) dX4_offsetOf_18 ⟨Nat.le_of_ble_eq_true rfl, Nat.le_of_ble_eq_true rfl⟩) (fun r510008 hr510008 => ?_)
        rcases hr510008 with ⟨hno510010, rfl⟩ | ⟨b510010, rfl, hb510010, hra510010, hbf510010⟩
        · refine W.eq (g2 := F0 m 21 ls [.null]) rfl ?_
          exact absurd ⟨by omega, by omega⟩ hno510010
        · refine W.eq (g2 := F0 m 21 ls [.ref b510010]) rfl ?_
          obtain ⟨hra510010a, hra510010b⟩ := id hra510010
          refine lv_astore (lv' := [(5, .ref b510010), (4, .int y510004), (0, .ref (ra (5 * Gp + Gn))), (1, .int ka), (2, .int kb), (3, .int sq)]) hx hb dX4_offsetOf_21 hl (by decide) rfl (fun ls hl => ?_)
          refine lv_aload hx hb dX4_offsetOf_23 (lv_at hl 0 rfl) ?_
          refine lv_ifnull hx hb dX4_offsetOf_25 ?_
          refine lv_aload hx hb dX4_offsetOf_28 (lv_at hl 0 rfl) ?_
          refine lv_iload_n hx hb dX4_offsetOf_30 rfl (lv_at hl 3 rfl) ?_
          refine lv_iload_n hx hb dX4_offsetOf_31 rfl (lv_at hl 4 rfl) ?_
          obtain ⟨j510012, hj510012⟩ := pG_0 (cy := cy) (N := N) (T := T) (I := I) (Q := Q) (J := J) hb510010.1 hb510010.2
          refine vp_callSi (W.runV (As := [.int ka, .int kb]) (rest := []) ⟨hx, hb, hml, hown, hts⟩ (g_X0_isDataBy l dC dI cy v L K N T I Q J b510010 ka kb hC hb510010.1 hb510010.2) (cwV 2 hts gX4_offsetOf_X0_isDataBy rfl rfl rfl (by decide +kernel) ⟨Nat.le_of_ble_eq_true rfl, Nat.le_of_ble_eq_true rfl⟩) ⟨pb_blind, va_recv hK hP (ci := 0) (q0 := j510012) rfl hj510012, fun U hU hW => ⟨rfl, pb_pre hP hK hN hU hW⟩⟩ rfl rfl hl.1 rfl (lv_room (Nat.le_of_ble_eq_true rfl)) dX4_offsetOf_32 ⟨Nat.le_of_ble_eq_true rfl, Nat.le_of_ble_eq_true rfl⟩) (fun r510011 hr510011 => ?_)
          refine lv_if_eq (tgt := 50) hx hb dX4_offsetOf_35 (by decide) (fun c510013 => ?_) (fun c510013 => ?_)
          · have kc510013 : r510011.toInt = 0 := by have h9 := c510013; rw [xk_eq, xk_0] at h9; exact h9
            obtain ⟨v510014, ev510014⟩ : ∃ y : Int32, y = y510004 + Int32.ofInt 1 := ⟨_, rfl⟩
            refine lv_iinc (v := v510014) (lv' := [(4, .int v510014), (5, .ref b510010), (0, .ref (ra (5 * Gp + Gn))), (1, .int ka), (2, .int kb), (3, .int sq)]) hx hb dX4_offsetOf_50 hl (k := 1) rfl ev510014.symm (by decide) rfl (fun ls hl => ?_)
            refine lv_goto (tgt := 6) hx hb dX4_offsetOf_53 (by decide) ?_
            have tv510014 : v510014.toInt = y510004.toInt + 1 := by rw [ev510014, show y510004 + Int32.ofInt 1 = y510004 + 1 from rfl]; exact xinc (y := σ.2.1 (5 * Gp + Gn) 2) (by rw [xk_lt]; omega)
            exact ih510003 _ _ (by omega) (by omega) (⟨by omega, by rw [clsucc (y := y510004) (by omega) tv510014, ← fU_step (lt_ze (by omega) (by omega)) (fun q => ite1_0 hr510011 c510013 ⟨(hbf510010 1 (by decide)).trans (of_decide_eq_true q).1, (hbf510010 2 (by decide)).trans (of_decide_eq_true q).2.1, (hbf510010 3 (by decide)).trans (of_decide_eq_true q).2.2.1⟩)]; exact hiv510003.2⟩)  (lv_sub hl [0, 2, 3, 4, 5] rfl)
          · have kc510013 : ¬ (r510011.toInt = 0) := by have h9 := c510013; rw [xk_eq, xk_0] at h9; exact h9
            refine lv_aload hx hb dX4_offsetOf_38 (lv_at hl 0 rfl) ?_
            obtain ⟨j510015, hj510015⟩ := pG_0 (cy := cy) (N := N) (T := T) (I := I) (Q := Q) (J := J) hb510010.1 hb510010.2
            refine va_get (D := (dC, dI)) (ci := 0) (v := .int (I b510010 4)) (C := RX0) (T := TX0) (N := 8) hx hb hts hi0 hown hK hP j510015 hj510015 rfl 4 (by decide) (hts (.fieldLink RX4 60 "TallyLogs$Entry" "seq" "I") (by decide +kernel)) (fun _ h9 => h9) rfl dX4_offsetOf_40 ?_
            refine lv_topi (fun x510016 ex510016 => ?_)
            have sx510016 : x510016 = σ.2.2 (5 * Gp + Gn) y510004.toNatClampNeg 4 := ex510016.trans (hbf510010 4 (by decide))
            refine lv_iload_n hx hb dX4_offsetOf_43 rfl (lv_at hl 5 rfl) ?_
            refine lv_icmp_ne (tgt := 50) hx hb dX4_offsetOf_44 (by decide) (fun c510017 => ?_) (fun c510017 => ?_)
            · have kc510017 : ¬ (x510016.toInt = sq.toInt) := by have h9 := c510017; rw [xk_eq] at h9; exact h9
              obtain ⟨v510018, ev510018⟩ : ∃ y : Int32, y = y510004 + Int32.ofInt 1 := ⟨_, rfl⟩
              refine lv_iinc (v := v510018) (lv' := [(4, .int v510018), (5, .ref b510010), (0, .ref (ra (5 * Gp + Gn))), (1, .int ka), (2, .int kb), (3, .int sq)]) hx hb dX4_offsetOf_50 hl (k := 1) rfl ev510018.symm (by decide) rfl (fun ls hl => ?_)
              refine lv_goto (tgt := 6) hx hb dX4_offsetOf_53 (by decide) ?_
              have tv510018 : v510018.toInt = y510004.toInt + 1 := by rw [ev510018, show y510004 + Int32.ofInt 1 = y510004 + 1 from rfl]; exact xinc (y := σ.2.1 (5 * Gp + Gn) 2) (by rw [xk_lt]; omega)
              exact ih510003 _ _ (by omega) (by omega) (⟨by omega, by rw [clsucc (y := y510004) (by omega) tv510018, ← fU_step (lt_ze (by omega) (by omega)) (fun q => c510017 (by rw [sx510016]; exact (of_decide_eq_true q).2.2.2))]; exact hiv510003.2⟩)  (lv_sub hl [0, 2, 3, 4, 5] rfl)
            · have kc510017 : x510016.toInt = sq.toInt := by have h9 := c510017; rw [xk_eq] at h9; exact h9
              refine lv_iload hx hb dX4_offsetOf_47 (lv_at hl 1 rfl) ?_
              rw [hQz]
              exact W.iret (v := y510004) hx hb hr (fun t ht hW => ⟨y510004, rfl, by show _ = _; rw [← hiv510003.2, fU_hit (lt_ze (by omega) (by omega)) (decide_eq_true ⟨(hbf510010 1 (by decide)).symm.trans (ite1_1 hr510011 c510013).1, (hbf510010 2 (by decide)).symm.trans (ite1_1 hr510011 c510013).2.1, (hbf510010 3 (by decide)).symm.trans (ite1_1 hr510011 c510013).2.2, by rw [← sx510016]; exact c510017⟩)]; exact xcl9 (by omega), ht⟩) (fun _ h => by cases h) dX4_offsetOf_49
  exact hLP510003 _ _ _ (Nat.lt_succ_self _) (by omega) (⟨by omega, by rw [sx510002]; rfl⟩)  (lv_sub hl [0, 1, 2, 3, 4] rfl)
set_option maxHeartbeats 4000000 in
set_option maxRecDepth 100000 in
/-- Replica.endKindOf, exactly -/
theorem g_X4_endKindOf (l : Launch) (dC : Nat → ClassId) (dI : Nat → Nat → Nat) (cy : Nat → ClassId) (v : Nat → Nat) (L : List Nat) (K N : Nat → Nat) (T : Nat → Nat → Nat) (I : Nat → Nat → Int32) (Q : Nat → Nat → Option Nat) (J : Nat → Nat → Int32) (pa ra : Nat → Nat) (kx : Nat → Prop) (σ : SG) (Gp Gn eb : Nat) (xo : Int32) (hE : REP v pa ra L K N T I Q J kx σ) (hp : Gp < 4) (hn : Gn < 5) (hl9 : lvj σ Gp Gn) (hN9 : LN (σ.2.1 (5 * Gp + Gn))) (hb0 : eb ∈ L) (hkb : K eb = 0) (hRK : RK σ (5 * Gp + Gn)) (h1 : (σ.2.1 (5 * Gp + Gn) 1).toInt ≤ xo.toInt) (h2 : xo.toInt < (σ.2.1 (5 * Gp + Gn) 2).toInt) (hf : ∀ f, f < 8 → I eb f = σ.2.2 (5 * Gp + Gn) xo.toNatClampNeg f) : Met l yX4_endKindOf wsX4_endKindOf ({ frames := 2, cells := 0, slots := 0, locals := 43 }) (va_Pc [.ref (ra (5 * Gp + Gn)), .ref eb, .int xo] (pB dC dI cy L (pF cy K N T I Q J))) (vp_Si (fun r => r = oEn σ (5 * Gp + Gn) xo.toNatClampNeg)) 0 0 (fun _ => False) := by
  refine Met.ofW (cc := cX4_endKindOf) (maxL := 5) (ret := (some .int)) (by decide) rfl ?_
  intro p e s m args below meth c s₁ B hml hv
  obtain ⟨rfl, hP, hK, hN⟩ := hv
  have hx := B.exec
  have hb := B.bytes
  have hr := B.returns
  have hts := atoms_spec (ws := wsX4_endKindOf) B.pre
  have hown : s.vm.findClass RX4 = some m.cls := findClass_of_methodNamed B.named
  have hlocks := B.notSynchronized
  have hi4 : ∀ w ∈ wsX40, w ∈ wsX4_endKindOf := by decide +kernel
  have hi0 : ∀ w ∈ wsX00, w ∈ wsX4_endKindOf := by decide +kernel
  have hl := lv_entry ([.ref (ra (5 * Gp + Gn)), .ref eb, .int xo]) (n := 5) (Nat.le_of_ble_eq_true rfl)
  rw [lg_entry_eq]
  generalize (lg_sl ([.ref (ra (5 * Gp + Gn)), .ref eb, .int xo]) ++ List.replicate (5 - (lg_sl ([.ref (ra (5 * Gp + Gn)), .ref eb, .int xo])).length) Slot.unset).toArray = ls at hl ⊢
  have hl : lv_has ls 5 [(0, .ref (ra (5 * Gp + Gn))), (1, .ref eb), (2, .int xo)] := hl
  have hn28 := hN.1
  have hn30 := hN.2.1
  have hn37 := hN.2.2.1
  have hC := hE.ct
  obtain ⟨n1g, n2g, n3g, n4g⟩ := id hN9
  refine lv_iload_n hx hb dX4_endKindOf_0 rfl (lv_at hl 2 rfl) ?_
  refine lv_iconst (v := 1) hx hb dX4_endKindOf_1 (by decide) ?_
  refine lv_iadd hx hb dX4_endKindOf_2 ?_
  refine lv_topi (fun v510019 ev510019 => ?_)
  have tv510019 : v510019.toInt = xo.toInt + 1 := by rw [ev510019]; exact xaddk (k := 1) (by decide) (by omega) (by omega)
  refine lv_istore_n (lv' := [(3, .int v510019), (0, .ref (ra (5 * Gp + Gn))), (1, .ref eb), (2, .int xo)]) hx hb dX4_endKindOf_3 rfl hl (by decide) rfl (fun ls hl => ?_)
  refine wq_gen (fun Qz hQz => ?_)
  have hLP510020 : ∀ (n : Nat) (y510021 : Int32) (ls : Array Slot), ((σ.2.1 (5 * Gp + Gn) 2).toInt - y510021.toInt).toNat < n → 0 ≤ y510021.toInt → (xo.toInt < y510021.toInt ∧ fU (pEn σ (5 * Gp + Gn) xo.toNatClampNeg) (ze σ (5 * Gp + Gn) - y510021.toNatClampNeg) y510021.toNatClampNeg = fU (pEn σ (5 * Gp + Gn) xo.toNatClampNeg) (ze σ (5 * Gp + Gn) - (xo.toNatClampNeg + 1)) (xo.toNatClampNeg + 1)) → lv_has ls 5 [(3, .int y510021), (0, .ref (ra (5 * Gp + Gn))), (1, .ref eb), (2, .int xo)] → W p l e (headSpec wsX4_endKindOf ({ frames := 2, cells := 0, slots := 0, locals := 43 })).room s m ([.ref (ra (5 * Gp + Gn)), .ref eb, .int xo] : List Value).toArray below meth c s.heap [] 0 0 Qz (F0 m 4 ls []) := by
    intro n
    induction n with
    | zero => intro y510021 ls hms; exact absurd hms (Nat.not_lt_zero _)
    | succ n ih510020 =>
      intro y510021 ls hms hnn510020 hiv510020 hl
      obtain ⟨hiw, _⟩ := id hiv510020
      refine lv_iload_n hx hb dX4_endKindOf_4 rfl (lv_at hl 0 rfl) ?_
      refine lv_aload_n hx hb dX4_endKindOf_5 rfl (lv_at hl 1 rfl) ?_
      obtain ⟨j510022, hj510022⟩ := pG_4 (cy := cy) (N := N) (T := T) (I := I) (Q := Q) (J := J) (hE.rL hp hn hl9).1 (hE.rL hp hn hl9).2
      refine va_get (D := (dC, dI)) (ci := 4) (v := .int (I (ra (5 * Gp + Gn)) 2)) (C := RX4) (T := TX4) (N := 7) hx hb hts hi4 hown hK hP j510022 hj510022 rfl 2 (by decide) (hts (.fieldLink RX4 21 "TallyLogs$Replica" "end" "I") (by decide +kernel)) (fun _ h9 => h9) rfl dX4_endKindOf_6 ?_
      refine lv_topi (fun x510023 ex510023 => ?_)
      have sx510023 : x510023 = σ.2.1 (5 * Gp + Gn) 2 := ex510023.trans (hE.g hp hn hl9 (by decide) (by decide) (by decide))
      have ux510023 := sx510023
      have tx510023 : x510023.toInt = (σ.2.1 (5 * Gp + Gn) 2).toInt := congrArg Int32.toInt sx510023
      refine lv_icmp_ge (tgt := 45) hx hb dX4_endKindOf_9 (by decide) (fun c510024 => ?_) (fun c510024 => ?_)
      · have kc510024 : x510023.toInt ≤ y510021.toInt := by have h9 := c510024; rw [xk_le] at h9; exact h9
        refine lv_iconst (v := 0) hx hb dX4_endKindOf_45 (by decide) ?_
        rw [hQz]
        exact W.iret (v := 0) hx hb hr (fun t ht hW => ⟨0, rfl, by show _ = _; unfold oEn; rw [← hiv510020.2, fU_end (ze_le (by omega))], ht⟩) (fun _ h => by cases h) dX4_endKindOf_46
      · have kc510024 : ¬ (x510023.toInt ≤ y510021.toInt) := by have h9 := c510024; rw [xk_le] at h9; exact h9
        refine lv_aload_n hx hb dX4_endKindOf_12 rfl (lv_at hl 1 rfl) ?_
        refine lv_iload_n hx hb dX4_endKindOf_13 rfl (lv_at hl 0 rfl) ?_
        obtain ⟨j510026, hj510026⟩ := pG_4 (cy := cy) (N := N) (T := T) (I := I) (Q := Q) (J := J) (hE.rL hp hn hl9).1 (hE.rL hp hn hl9).2
        refine va_csq (W.runV (As := [.int y510021]) (rest := []) ⟨hx, hb, hml, hown, hts⟩ (g_X4_entryAt l dC dI cy v L K N T I Q J pa ra kx σ Gp Gn y510021 hE hp hn hl9 hN9) (cwV 1 hts gX4_endKindOf_X4_entryAt rfl rfl rfl (by decide +kernel) ⟨Nat.le_of_ble_eq_true rfl, Nat.le_of_ble_eq_true rfl⟩) ⟨pb_blind, va_recv hK hP (ci := 4) (q0 := j510026) rfl hj510026, fun U hU hW => ⟨rfl, pb_pre hP hK hN hU hW⟩⟩ rfl rfl hl.1 rfl (lv_room (Nat.le_of_ble_eq_true rfl)) dX4_endKindOf_14 ⟨Nat.le_of_ble_eq_true rfl, Nat.le_of_ble_eq_true rfl⟩) (fun r510025 hr510025 => ?_)
        rcases hr510025 with ⟨hno510027, rfl⟩ | ⟨b510027, rfl, hb510027, hra510027, hbf510027⟩
        · refine W.eq (g2 := F0 m 17 ls [.null]) rfl ?_
          exact absurd ⟨by omega, by omega⟩ hno510027
        · refine W.eq (g2 := F0 m 17 ls [.ref b510027]) rfl ?_
          obtain ⟨hra510027a, hra510027b⟩ := id hra510027
          refine lv_astore (lv' := [(4, .ref b510027), (3, .int y510021), (0, .ref (ra (5 * Gp + Gn))), (1, .ref eb), (2, .int xo)]) hx hb dX4_endKindOf_17 hl (by decide) rfl (fun ls hl => ?_)
          refine lv_aload hx hb dX4_endKindOf_19 (lv_at hl 0 rfl) ?_
          refine lv_ifnull hx hb dX4_endKindOf_21 ?_
          refine lv_aload hx hb dX4_endKindOf_24 (lv_at hl 0 rfl) ?_
          refine lv_aload_n hx hb dX4_endKindOf_26 rfl (lv_at hl 3 rfl) ?_
          obtain ⟨j510029, hj510029⟩ := pG_0 (cy := cy) (N := N) (T := T) (I := I) (Q := Q) (J := J) hb510027.1 hb510027.2
          refine vp_callSi (W.runV (As := [.ref eb]) (rest := []) ⟨hx, hb, hml, hown, hts⟩ (g_X0_isEndOf l dC dI cy v L K N T I Q J b510027 eb hC hb510027.1 hb510027.2 hb0 hkb) (cwV 1 hts gX4_endKindOf_X0_isEndOf rfl rfl rfl (by decide +kernel) ⟨Nat.le_of_ble_eq_true rfl, Nat.le_of_ble_eq_true rfl⟩) ⟨pb_blind, va_recv hK hP (ci := 0) (q0 := j510029) rfl hj510029, fun U hU hW => ⟨rfl, pb_pre hP hK hN hU hW⟩⟩ rfl rfl hl.1 rfl (lv_room (Nat.le_of_ble_eq_true rfl)) dX4_endKindOf_27 ⟨Nat.le_of_ble_eq_true rfl, Nat.le_of_ble_eq_true rfl⟩) (fun r510028 hr510028 => ?_)
          refine lv_if_eq (tgt := 39) hx hb dX4_endKindOf_30 (by decide) (fun c510030 => ?_) (fun c510030 => ?_)
          · have kc510030 : r510028.toInt = 0 := by have h9 := c510030; rw [xk_eq, xk_0] at h9; exact h9
            obtain ⟨v510031, ev510031⟩ : ∃ y : Int32, y = y510021 + Int32.ofInt 1 := ⟨_, rfl⟩
            refine lv_iinc (v := v510031) (lv' := [(3, .int v510031), (4, .ref b510027), (0, .ref (ra (5 * Gp + Gn))), (1, .ref eb), (2, .int xo)]) hx hb dX4_endKindOf_39 hl (k := 1) rfl ev510031.symm (by decide) rfl (fun ls hl => ?_)
            refine lv_goto (tgt := 4) hx hb dX4_endKindOf_42 (by decide) ?_
            have tv510031 : v510031.toInt = y510021.toInt + 1 := by rw [ev510031, show y510021 + Int32.ofInt 1 = y510021 + 1 from rfl]; exact xinc (y := σ.2.1 (5 * Gp + Gn) 2) (by rw [xk_lt]; omega)
            exact ih510020 _ _ (by omega) (by omega) (⟨by omega, by rw [clsucc (y := y510021) (by omega) tv510031, ← fU_step (lt_ze (by omega) (by omega)) (fun q => ite1_0 hr510028 c510030 ⟨fun z => by have q1 := (of_decide_eq_true q).1; rw [← hbf510027 1 (by decide), z] at q1; exact absurd q1 (by decide), by rw [hbf510027 2 (by decide), hf 2 (by decide)]; exact (of_decide_eq_true q).2.1, by rw [hbf510027 3 (by decide), hf 3 (by decide)]; exact (of_decide_eq_true q).2.2⟩)]; exact hiv510020.2⟩)  (lv_sub hl [0, 2, 3, 4] rfl)
          · have kc510030 : ¬ (r510028.toInt = 0) := by have h9 := c510030; rw [xk_eq, xk_0] at h9; exact h9
            refine lv_aload hx hb dX4_endKindOf_33 (lv_at hl 0 rfl) ?_
            obtain ⟨j510032, hj510032⟩ := pG_0 (cy := cy) (N := N) (T := T) (I := I) (Q := Q) (J := J) hb510027.1 hb510027.2
            refine va_get (D := (dC, dI)) (ci := 0) (v := .int (I b510027 1)) (C := RX0) (T := TX0) (N := 8) hx hb hts hi0 hown hK hP j510032 hj510032 rfl 1 (by decide) (hts (.fieldLink RX4 82 "TallyLogs$Entry" "kind" "I") (by decide +kernel)) (fun _ h9 => h9) rfl dX4_endKindOf_35 ?_
            refine lv_topi (fun x510033 ex510033 => ?_)
            have sx510033 : x510033 = σ.2.2 (5 * Gp + Gn) y510021.toNatClampNeg 1 := ex510033.trans (hbf510027 1 (by decide))
            rw [hQz]
            exact W.iret (v := x510033) hx hb hr (fun t ht hW => ⟨x510033, rfl, by show _ = _; unfold oEn; rw [← hiv510020.2, fU_hit (lt_ze (by omega) (by omega)) (decide_eq_true ⟨hRK.pos (zb_le (by omega)) (lt_ze (by omega) (by omega)) (by rw [← hbf510027 1 (by decide)]; exact (ite1_1 hr510028 c510030).1), by rw [← hbf510027 2 (by decide), ← hf 2 (by decide)]; exact (ite1_1 hr510028 c510030).2.1, by rw [← hbf510027 3 (by decide), ← hf 3 (by decide)]; exact (ite1_1 hr510028 c510030).2.2⟩)]; exact sx510033, ht⟩) (fun _ h => by cases h) dX4_endKindOf_38
  exact hLP510020 _ _ _ (Nat.lt_succ_self _) (by omega) (⟨by omega, by rw [clsucc (y := xo) (by omega) tv510019]⟩)  (lv_sub hl [0, 1, 2, 3] rfl)
set_option maxHeartbeats 4000000 in
set_option maxRecDepth 100000 in
/-- Replica.firstOpen, exactly -/
theorem g_X4_firstOpen (l : Launch) (dC : Nat → ClassId) (dI : Nat → Nat → Nat) (cy : Nat → ClassId) (v : Nat → Nat) (L : List Nat) (K N : Nat → Nat) (T : Nat → Nat → Nat) (I : Nat → Nat → Int32) (Q : Nat → Nat → Option Nat) (J : Nat → Nat → Int32) (pa ra : Nat → Nat) (kx : Nat → Prop) (σ : SG) (Gp Gn : Nat) (hE : REP v pa ra L K N T I Q J kx σ) (hp : Gp < 4) (hn : Gn < 5) (hl9 : lvj σ Gp Gn) (hN9 : LN (σ.2.1 (5 * Gp + Gn))) (hRK : RK σ (5 * Gp + Gn)) : Met l yX4_firstOpen wsX4_firstOpen ({ frames := 3, cells := 0, slots := 0, locals := 67 }) (va_Pc [.ref (ra (5 * Gp + Gn))] (pB dC dI cy L (pF cy K N T I Q J))) (vp_Si (fun r => r = oFo σ (5 * Gp + Gn))) 0 0 (fun _ => False) := by
  refine Met.ofW (cc := cX4_firstOpen) (maxL := 3) (ret := (some .int)) (by decide) rfl ?_
  intro p e s m args below meth c s₁ B hml hv
  obtain ⟨rfl, hP, hK, hN⟩ := hv
  have hx := B.exec
  have hb := B.bytes
  have hr := B.returns
  have hts := atoms_spec (ws := wsX4_firstOpen) B.pre
  have hown : s.vm.findClass RX4 = some m.cls := findClass_of_methodNamed B.named
  have hlocks := B.notSynchronized
  have hi4 : ∀ w ∈ wsX40, w ∈ wsX4_firstOpen := by decide +kernel
  have hi0 : ∀ w ∈ wsX00, w ∈ wsX4_firstOpen := by decide +kernel
  have hl := lv_entry ([.ref (ra (5 * Gp + Gn))]) (n := 3) (Nat.le_of_ble_eq_true rfl)
  rw [lg_entry_eq]
  generalize (lg_sl ([.ref (ra (5 * Gp + Gn))]) ++ List.replicate (3 - (lg_sl ([.ref (ra (5 * Gp + Gn))])).length) Slot.unset).toArray = ls at hl ⊢
  have hl : lv_has ls 3 [(0, .ref (ra (5 * Gp + Gn)))] := hl
  have hn28 := hN.1
  have hn30 := hN.2.1
  have hn37 := hN.2.2.1
  have hC := hE.ct
  obtain ⟨n1g, n2g, n3g, n4g⟩ := id hN9
  refine lv_aload_n hx hb dX4_firstOpen_0 rfl (lv_at hl 0 rfl) ?_
  obtain ⟨j510034, hj510034⟩ := pG_4 (cy := cy) (N := N) (T := T) (I := I) (Q := Q) (J := J) (hE.rL hp hn hl9).1 (hE.rL hp hn hl9).2
  refine va_get (D := (dC, dI)) (ci := 4) (v := .int (I (ra (5 * Gp + Gn)) 1)) (C := RX4) (T := TX4) (N := 7) hx hb hts hi4 hown hK hP j510034 hj510034 rfl 1 (by decide) (hts (.fieldLink RX4 17 "TallyLogs$Replica" "start" "I") (by decide +kernel)) (fun _ h9 => h9) rfl dX4_firstOpen_1 ?_
  refine lv_topi (fun x510035 ex510035 => ?_)
  have sx510035 : x510035 = σ.2.1 (5 * Gp + Gn) 1 := ex510035.trans (hE.g hp hn hl9 (by decide) (by decide) (by decide))
  have ux510035 := sx510035
  have tx510035 : x510035.toInt = (σ.2.1 (5 * Gp + Gn) 1).toInt := congrArg Int32.toInt sx510035
  refine lv_istore_n (lv' := [(1, .int x510035), (0, .ref (ra (5 * Gp + Gn)))]) hx hb dX4_firstOpen_4 rfl hl (by decide) rfl (fun ls hl => ?_)
  refine wq_gen (fun Qz hQz => ?_)
  have hLP510036 : ∀ (n : Nat) (y510037 : Int32) (ls : Array Slot), ((σ.2.1 (5 * Gp + Gn) 2).toInt - y510037.toInt).toNat < n → 0 ≤ y510037.toInt → ((σ.2.1 (5 * Gp + Gn) 1).toInt ≤ y510037.toInt ∧ fU (pFo σ (5 * Gp + Gn)) (ze σ (5 * Gp + Gn) - y510037.toNatClampNeg) y510037.toNatClampNeg = fU (pFo σ (5 * Gp + Gn)) (ze σ (5 * Gp + Gn) - zb σ (5 * Gp + Gn)) (zb σ (5 * Gp + Gn))) → lv_has ls 3 [(1, .int y510037), (0, .ref (ra (5 * Gp + Gn)))] → W p l e (headSpec wsX4_firstOpen ({ frames := 3, cells := 0, slots := 0, locals := 67 })).room s m ([.ref (ra (5 * Gp + Gn))] : List Value).toArray below meth c s.heap [] 0 0 Qz (F0 m 5 ls []) := by
    intro n
    induction n with
    | zero => intro y510037 ls hms; exact absurd hms (Nat.not_lt_zero _)
    | succ n ih510036 =>
      intro y510037 ls hms hnn510036 hiv510036 hl
      obtain ⟨hiw, _⟩ := id hiv510036
      refine lv_iload_n hx hb dX4_firstOpen_5 rfl (lv_at hl 0 rfl) ?_
      refine lv_aload_n hx hb dX4_firstOpen_6 rfl (lv_at hl 1 rfl) ?_
      obtain ⟨j510038, hj510038⟩ := pG_4 (cy := cy) (N := N) (T := T) (I := I) (Q := Q) (J := J) (hE.rL hp hn hl9).1 (hE.rL hp hn hl9).2
      refine va_get (D := (dC, dI)) (ci := 4) (v := .int (I (ra (5 * Gp + Gn)) 2)) (C := RX4) (T := TX4) (N := 7) hx hb hts hi4 hown hK hP j510038 hj510038 rfl 2 (by decide) (hts (.fieldLink RX4 21 "TallyLogs$Replica" "end" "I") (by decide +kernel)) (fun _ h9 => h9) rfl dX4_firstOpen_7 ?_
      refine lv_topi (fun x510039 ex510039 => ?_)
      have sx510039 : x510039 = σ.2.1 (5 * Gp + Gn) 2 := ex510039.trans (hE.g hp hn hl9 (by decide) (by decide) (by decide))
      have ux510039 := sx510039
      have tx510039 : x510039.toInt = (σ.2.1 (5 * Gp + Gn) 2).toInt := congrArg Int32.toInt sx510039
      refine lv_icmp_ge (tgt := 47) hx hb dX4_firstOpen_10 (by decide) (fun c510040 => ?_) (fun c510040 => ?_)
      · have kc510040 : x510039.toInt ≤ y510037.toInt := by have h9 := c510040; rw [xk_le] at h9; exact h9
        refine lv_aload_n hx hb dX4_firstOpen_47 rfl (lv_at hl 1 rfl) ?_
        obtain ⟨j510041, hj510041⟩ := pG_4 (cy := cy) (N := N) (T := T) (I := I) (Q := Q) (J := J) (hE.rL hp hn hl9).1 (hE.rL hp hn hl9).2
        refine va_get (D := (dC, dI)) (ci := 4) (v := .int (I (ra (5 * Gp + Gn)) 2)) (C := RX4) (T := TX4) (N := 7) hx hb hts hi4 hown hK hP j510041 hj510041 rfl 2 (by decide) (hts (.fieldLink RX4 21 "TallyLogs$Replica" "end" "I") (by decide +kernel)) (fun _ h9 => h9) rfl dX4_firstOpen_48 ?_
        refine lv_topi (fun x510042 ex510042 => ?_)
        have sx510042 : x510042 = σ.2.1 (5 * Gp + Gn) 2 := ex510042.trans (hE.g hp hn hl9 (by decide) (by decide) (by decide))
        have ux510042 := sx510042
        have tx510042 : x510042.toInt = (σ.2.1 (5 * Gp + Gn) 2).toInt := congrArg Int32.toInt sx510042
        rw [hQz]
        exact W.iret (v := x510042) hx hb hr (fun t ht hW => ⟨x510042, rfl, by show _ = _; unfold oFo; rw [← hiv510036.2, fU_end (ze_le (by omega))]; exact sx510042, ht⟩) (fun _ h => by cases h) dX4_firstOpen_51
      · have kc510040 : ¬ (x510039.toInt ≤ y510037.toInt) := by have h9 := c510040; rw [xk_le] at h9; exact h9
        refine lv_aload_n hx hb dX4_firstOpen_13 rfl (lv_at hl 1 rfl) ?_
        refine lv_iload_n hx hb dX4_firstOpen_14 rfl (lv_at hl 0 rfl) ?_
        obtain ⟨j510044, hj510044⟩ := pG_4 (cy := cy) (N := N) (T := T) (I := I) (Q := Q) (J := J) (hE.rL hp hn hl9).1 (hE.rL hp hn hl9).2
        refine va_csq (W.runV (As := [.int y510037]) (rest := []) ⟨hx, hb, hml, hown, hts⟩ (g_X4_entryAt l dC dI cy v L K N T I Q J pa ra kx σ Gp Gn y510037 hE hp hn hl9 hN9) (cwV 1 hts gX4_firstOpen_X4_entryAt rfl rfl rfl (by decide +kernel) ⟨Nat.le_of_ble_eq_true rfl, Nat.le_of_ble_eq_true rfl⟩) ⟨pb_blind, va_recv hK hP (ci := 4) (q0 := j510044) rfl hj510044, fun U hU hW => ⟨rfl, pb_pre hP hK hN hU hW⟩⟩ rfl rfl hl.1 rfl (lv_room (Nat.le_of_ble_eq_true rfl)) dX4_firstOpen_15 ⟨Nat.le_of_ble_eq_true rfl, Nat.le_of_ble_eq_true rfl⟩) (fun r510043 hr510043 => ?_)
        rcases hr510043 with ⟨hno510045, rfl⟩ | ⟨b510045, rfl, hb510045, hra510045, hbf510045⟩
        · refine W.eq (g2 := F0 m 18 ls [.null]) rfl ?_
          exact absurd ⟨by omega, by omega⟩ hno510045
        · refine W.eq (g2 := F0 m 18 ls [.ref b510045]) rfl ?_
          obtain ⟨hra510045a, hra510045b⟩ := id hra510045
          refine lv_astore_n (lv' := [(2, .ref b510045), (1, .int y510037), (0, .ref (ra (5 * Gp + Gn)))]) hx hb dX4_firstOpen_18 rfl hl (by decide) rfl (fun ls hl => ?_)
          refine lv_aload_n hx hb dX4_firstOpen_19 rfl (lv_at hl 0 rfl) ?_
          refine lv_ifnull hx hb dX4_firstOpen_20 ?_
          refine lv_aload_n hx hb dX4_firstOpen_23 rfl (lv_at hl 0 rfl) ?_
          obtain ⟨j510046, hj510046⟩ := pG_0 (cy := cy) (N := N) (T := T) (I := I) (Q := Q) (J := J) hb510045.1 hb510045.2
          refine va_get (D := (dC, dI)) (ci := 0) (v := .int (I b510045 7)) (C := RX0) (T := TX0) (N := 8) hx hb hts hi0 hown hK hP j510046 hj510046 rfl 7 (by decide) (hts (.fieldLink RX4 85 "TallyLogs$Entry" "bound" "Z") (by decide +kernel)) (fun _ h9 => h9) rfl dX4_firstOpen_24 ?_
          refine lv_topi (fun x510047 ex510047 => ?_)
          have sx510047 : x510047 = σ.2.2 (5 * Gp + Gn) y510037.toNatClampNeg 7 := ex510047.trans (hbf510045 7 (by decide))
          refine lv_if_eq (tgt := 41) hx hb dX4_firstOpen_27 (by decide) (fun c510048 => ?_) (fun c510048 => ?_)
          · have kc510048 : x510047.toInt = 0 := by have h9 := c510048; rw [xk_eq, xk_0] at h9; exact h9
            obtain ⟨v510049, ev510049⟩ : ∃ y : Int32, y = y510037 + Int32.ofInt 1 := ⟨_, rfl⟩
            refine lv_iinc (v := v510049) (lv' := [(1, .int v510049), (2, .ref b510045), (0, .ref (ra (5 * Gp + Gn)))]) hx hb dX4_firstOpen_41 hl (k := 1) rfl ev510049.symm (by decide) rfl (fun ls hl => ?_)
            refine lv_goto (tgt := 5) hx hb dX4_firstOpen_44 (by decide) ?_
            have tv510049 : v510049.toInt = y510037.toInt + 1 := by rw [ev510049, show y510037 + Int32.ofInt 1 = y510037 + 1 from rfl]; exact xinc (y := σ.2.1 (5 * Gp + Gn) 2) (by rw [xk_lt]; omega)
            exact ih510036 _ _ (by omega) (by omega) (⟨by omega, by rw [clsucc (y := y510037) (by omega) tv510049, ← fU_step (lt_ze (by omega) (by omega)) (fun q => by have q1 := (of_decide_eq_true q).2.1; rw [← sx510047, c510048] at q1; exact absurd q1 (by decide))]; exact hiv510036.2⟩)  (lv_sub hl [0, 2] rfl)
          · have kc510048 : ¬ (x510047.toInt = 0) := by have h9 := c510048; rw [xk_eq, xk_0] at h9; exact h9
            refine lv_aload_n hx hb dX4_firstOpen_30 rfl (lv_at hl 2 rfl) ?_
            refine lv_aload_n hx hb dX4_firstOpen_31 rfl (lv_at hl 0 rfl) ?_
            refine lv_iload_n hx hb dX4_firstOpen_32 rfl (lv_at hl 1 rfl) ?_
            obtain ⟨j510051, hj510051⟩ := pG_4 (cy := cy) (N := N) (T := T) (I := I) (Q := Q) (J := J) (hE.rL hp hn hl9).1 (hE.rL hp hn hl9).2
            refine vp_callSi (W.runV (As := [.ref b510045, .int y510037]) (rest := []) ⟨hx, hb, hml, hown, hts⟩ (g_X4_endKindOf l dC dI cy v L K N T I Q J pa ra kx σ Gp Gn b510045 y510037 hE hp hn hl9 hN9 hb510045.1 hb510045.2 hRK (by omega) (by omega) hbf510045) (cwV 2 hts gX4_firstOpen_X4_endKindOf rfl rfl rfl (by decide +kernel) ⟨Nat.le_of_ble_eq_true rfl, Nat.le_of_ble_eq_true rfl⟩) ⟨pb_blind, va_recv hK hP (ci := 4) (q0 := j510051) rfl hj510051, fun U hU hW => ⟨rfl, pb_pre hP hK hN hU hW⟩⟩ rfl rfl hl.1 rfl (lv_room (Nat.le_of_ble_eq_true rfl)) dX4_firstOpen_33 ⟨Nat.le_of_ble_eq_true rfl, Nat.le_of_ble_eq_true rfl⟩) (fun r510050 hr510050 => ?_)
            refine lv_if_ne (tgt := 41) hx hb dX4_firstOpen_36 (by decide) (fun c510052 => ?_) (fun c510052 => ?_)
            · have kc510052 : ¬ (r510050.toInt = 0) := by have h9 := c510052; rw [xk_eq, xk_0] at h9; exact h9
              obtain ⟨v510053, ev510053⟩ : ∃ y : Int32, y = y510037 + Int32.ofInt 1 := ⟨_, rfl⟩
              refine lv_iinc (v := v510053) (lv' := [(1, .int v510053), (2, .ref b510045), (0, .ref (ra (5 * Gp + Gn)))]) hx hb dX4_firstOpen_41 hl (k := 1) rfl ev510053.symm (by decide) rfl (fun ls hl => ?_)
              refine lv_goto (tgt := 5) hx hb dX4_firstOpen_44 (by decide) ?_
              have tv510053 : v510053.toInt = y510037.toInt + 1 := by rw [ev510053, show y510037 + Int32.ofInt 1 = y510037 + 1 from rfl]; exact xinc (y := σ.2.1 (5 * Gp + Gn) 2) (by rw [xk_lt]; omega)
              exact ih510036 _ _ (by omega) (by omega) (⟨by omega, by rw [clsucc (y := y510037) (by omega) tv510053, ← fU_step (lt_ze (by omega) (by omega)) (fun q => c510052 (by rw [hr510050]; exact (of_decide_eq_true q).2.2))]; exact hiv510036.2⟩)  (lv_sub hl [0, 2] rfl)
            · have kc510052 : r510050.toInt = 0 := by have h9 := c510052; rw [xk_eq, xk_0] at h9; exact h9
              refine lv_iload_n hx hb dX4_firstOpen_39 rfl (lv_at hl 1 rfl) ?_
              rw [hQz]
              exact W.iret (v := y510037) hx hb hr (fun t ht hW => ⟨y510037, rfl, by show _ = _; unfold oFo; rw [← hiv510036.2, fU_hit (lt_ze (by omega) (by omega)) (decide_eq_true ⟨(hRK _ (zb_le (by omega)) (lt_ze (by omega) (by omega))).2.2 (hRK.bd (zb_le (by omega)) (lt_ze (by omega) (by omega)) (by rw [← sx510047]; exact c510048)), (hRK.bd (zb_le (by omega)) (lt_ze (by omega) (by omega)) (by rw [← sx510047]; exact c510048)), by rw [← hr510050]; exact c510052⟩)]; exact xcl9 (by omega), ht⟩) (fun _ h => by cases h) dX4_firstOpen_40
  exact hLP510036 _ _ _ (Nat.lt_succ_self _) (by omega) (⟨by omega, by rw [sx510035]; rfl⟩)  (lv_sub hl [0, 1] rfl)
set_option maxHeartbeats 4000000 in
set_option maxRecDepth 100000 in
/-- Replica.isAborted, exactly -/
theorem g_X4_isAborted (l : Launch) (dC : Nat → ClassId) (dI : Nat → Nat → Nat) (cy : Nat → ClassId) (v : Nat → Nat) (L : List Nat) (K N : Nat → Nat) (T : Nat → Nat → Nat) (I : Nat → Nat → Int32) (Q : Nat → Nat → Option Nat) (J : Nat → Nat → Int32) (pa ra : Nat → Nat) (kx : Nat → Prop) (σ : SG) (Gp Gn eb : Nat) (xo : Int32) (hE : REP v pa ra L K N T I Q J kx σ) (hp : Gp < 4) (hn : Gn < 5) (hl9 : lvj σ Gp Gn) (hN9 : LN (σ.2.1 (5 * Gp + Gn))) (hb0 : eb ∈ L) (hkb : K eb = 0) (hRK : RK σ (5 * Gp + Gn)) (h1 : (σ.2.1 (5 * Gp + Gn) 1).toInt ≤ xo.toInt) (h2 : xo.toInt < (σ.2.1 (5 * Gp + Gn) 2).toInt) (hf : ∀ f, f < 8 → I eb f = σ.2.2 (5 * Gp + Gn) xo.toNatClampNeg f) : Met l yX4_isAborted wsX4_isAborted ({ frames := 3, cells := 0, slots := 0, locals := 67 }) (va_Pc [.ref (ra (5 * Gp + Gn)), .ref eb, .int xo] (pB dC dI cy L (pF cy K N T I Q J))) (vp_Si (fun r => r = if ¬ I eb 7 = 0 ∧ oEn σ (5 * Gp + Gn) xo.toNatClampNeg = 2 then 1 else 0)) 0 0 (fun _ => False) := by
  refine Met.ofW (cc := cX4_isAborted) (maxL := 3) (ret := (some .boolean)) (by decide) rfl ?_
  intro p e s m args below meth c s₁ B hml hv
  obtain ⟨rfl, hP, hK, hN⟩ := hv
  have hx := B.exec
  have hb := B.bytes
  have hr := B.returns
  have hts := atoms_spec (ws := wsX4_isAborted) B.pre
  have hown : s.vm.findClass RX4 = some m.cls := findClass_of_methodNamed B.named
  have hlocks := B.notSynchronized
  have hi4 : ∀ w ∈ wsX40, w ∈ wsX4_isAborted := by decide +kernel
  have hi0 : ∀ w ∈ wsX00, w ∈ wsX4_isAborted := by decide +kernel
  have hl := lv_entry ([.ref (ra (5 * Gp + Gn)), .ref eb, .int xo]) (n := 3) (Nat.le_of_ble_eq_true rfl)
  rw [lg_entry_eq]
  generalize (lg_sl ([.ref (ra (5 * Gp + Gn)), .ref eb, .int xo]) ++ List.replicate (3 - (lg_sl ([.ref (ra (5 * Gp + Gn)), .ref eb, .int xo])).length) Slot.unset).toArray = ls at hl ⊢
  have hl : lv_has ls 3 [(0, .ref (ra (5 * Gp + Gn))), (1, .ref eb), (2, .int xo)] := hl
  have hn28 := hN.1
  have hn30 := hN.2.1
  have hn37 := hN.2.2.1
  have hC := hE.ct
  obtain ⟨n1g, n2g, n3g, n4g⟩ := id hN9
  refine lv_aload_n hx hb dX4_isAborted_0 rfl (lv_at hl 1 rfl) ?_
  obtain ⟨j510054, hj510054⟩ := pG_0 (cy := cy) (N := N) (T := T) (I := I) (Q := Q) (J := J) hb0 hkb
  refine va_get (D := (dC, dI)) (ci := 0) (v := .int (I eb 7)) (C := RX0) (T := TX0) (N := 8) hx hb hts hi0 hown hK hP j510054 hj510054 rfl 7 (by decide) (hts (.fieldLink RX4 85 "TallyLogs$Entry" "bound" "Z") (by decide +kernel)) (fun _ h9 => h9) rfl dX4_isAborted_1 ?_
  refine lv_topi (fun x510055 ex510055 => ?_)
  have sx510055 : x510055 = σ.2.2 (5 * Gp + Gn) xo.toNatClampNeg 7 := ex510055.trans (hf 7 (by decide))
  refine lv_if_eq (tgt := 21) hx hb dX4_isAborted_4 (by decide) (fun c510056 => ?_) (fun c510056 => ?_)
  · have kc510056 : x510055.toInt = 0 := by have h9 := c510056; rw [xk_eq, xk_0] at h9; exact h9
    refine lv_iconst (v := 0) hx hb dX4_isAborted_21 (by decide) ?_
    exact W.zret (v := 0) hx hb hr (by decide) (fun t ht hW => ⟨0, rfl, by show _ = _; rw [if_neg (fun q => q.1 (by rw [← ex510055]; exact c510056))], ht⟩) (fun _ h => by cases h) dX4_isAborted_22
  · have kc510056 : ¬ (x510055.toInt = 0) := by have h9 := c510056; rw [xk_eq, xk_0] at h9; exact h9
    refine lv_aload_n hx hb dX4_isAborted_7 rfl (lv_at hl 0 rfl) ?_
    refine lv_aload_n hx hb dX4_isAborted_8 rfl (lv_at hl 1 rfl) ?_
    refine lv_iload_n hx hb dX4_isAborted_9 rfl (lv_at hl 2 rfl) ?_
    obtain ⟨j510058, hj510058⟩ := pG_4 (cy := cy) (N := N) (T := T) (I := I) (Q := Q) (J := J) (hE.rL hp hn hl9).1 (hE.rL hp hn hl9).2
    refine vp_callSi (W.runV (As := [.ref eb, .int xo]) (rest := []) ⟨hx, hb, hml, hown, hts⟩ (g_X4_endKindOf l dC dI cy v L K N T I Q J pa ra kx σ Gp Gn eb xo hE hp hn hl9 hN9 hb0 hkb hRK (by omega) (by omega) hf) (cwV 2 hts gX4_isAborted_X4_endKindOf rfl rfl rfl (by decide +kernel) ⟨Nat.le_of_ble_eq_true rfl, Nat.le_of_ble_eq_true rfl⟩) ⟨pb_blind, va_recv hK hP (ci := 4) (q0 := j510058) rfl hj510058, fun U hU hW => ⟨rfl, pb_pre hP hK hN hU hW⟩⟩ rfl rfl hl.1 rfl (lv_room (Nat.le_of_ble_eq_true rfl)) dX4_isAborted_10 ⟨Nat.le_of_ble_eq_true rfl, Nat.le_of_ble_eq_true rfl⟩) (fun r510057 hr510057 => ?_)
    refine lv_iconst (v := 2) hx hb dX4_isAborted_13 (by decide) ?_
    refine lv_icmp_ne (tgt := 21) hx hb dX4_isAborted_14 (by decide) (fun c510059 => ?_) (fun c510059 => ?_)
    · have kc510059 : ¬ (r510057.toInt = 2) := by have h9 := c510059; rw [xk_eq, xk_2] at h9; exact h9
      refine lv_iconst (v := 0) hx hb dX4_isAborted_21 (by decide) ?_
      exact W.zret (v := 0) hx hb hr (by decide) (fun t ht hW => ⟨0, rfl, by show _ = _; rw [if_neg (fun q => c510059 (by rw [hr510057]; exact q.2))], ht⟩) (fun _ h => by cases h) dX4_isAborted_22
    · have kc510059 : r510057.toInt = 2 := by have h9 := c510059; rw [xk_eq, xk_2] at h9; exact h9
      refine lv_iconst (v := 1) hx hb dX4_isAborted_17 (by decide) ?_
      refine lv_goto (tgt := 22) hx hb dX4_isAborted_18 (by decide) ?_
      exact W.zret (v := 1) hx hb hr (by decide) (fun t ht hW => ⟨1, rfl, by show _ = _; rw [if_pos ⟨by rw [← ex510055]; exact c510056, by rw [← hr510057]; exact c510059⟩], ht⟩) (fun _ h => by cases h) dX4_isAborted_22
set_option maxHeartbeats 4000000 in
set_option maxRecDepth 100000 in
/-- Replica.hasSameEpoch, exactly -/
theorem g_X4_hasSameEpoch (l : Launch) (dC : Nat → ClassId) (dI : Nat → Nat → Nat) (cy : Nat → ClassId) (v : Nat → Nat) (L : List Nat) (K N : Nat → Nat) (T : Nat → Nat → Nat) (I : Nat → Nat → Int32) (Q : Nat → Nat → Option Nat) (J : Nat → Nat → Int32) (pa ra : Nat → Nat) (kx : Nat → Prop) (σ : SG) (Gp Gn Gm : Nat) (xo : Int32) (hE : REP v pa ra L K N T I Q J kx σ) (hp : Gp < 4) (hn : Gn < 5) (hl9 : lvj σ Gp Gn) (hN9 : LN (σ.2.1 (5 * Gp + Gn))) (hm : Gm < 5) (hlm : lvj σ Gp Gm) (hNm : LN (σ.2.1 (5 * Gp + Gm))) : Met l yX4_hasSameEpoch wsX4_hasSameEpoch ({ frames := 2, cells := 0, slots := 0, locals := 43 }) (va_Pc [.ref (ra (5 * Gp + Gn)), .int xo, .ref (ra (5 * Gp + Gm))] (pB dC dI cy L (pF cy K N T I Q J))) (vp_Si (fun r => r = if (((σ.2.1 (5 * Gp + Gn) 1).toInt ≤ xo.toInt ∧ xo.toInt < (σ.2.1 (5 * Gp + Gn) 2).toInt) ∧ (σ.2.1 (5 * Gp + Gm) 1).toInt ≤ xo.toInt ∧ xo.toInt < (σ.2.1 (5 * Gp + Gm) 2).toInt) ∧ σ.2.2 (5 * Gp + Gn) xo.toNatClampNeg 0 = σ.2.2 (5 * Gp + Gm) xo.toNatClampNeg 0 then 1 else 0)) 0 0 (fun _ => False) := by
  refine Met.ofW (cc := cX4_hasSameEpoch) (maxL := 5) (ret := (some .boolean)) (by decide) rfl ?_
  intro p e s m args below meth c s₁ B hml hv
  obtain ⟨rfl, hP, hK, hN⟩ := hv
  have hx := B.exec
  have hb := B.bytes
  have hr := B.returns
  have hts := atoms_spec (ws := wsX4_hasSameEpoch) B.pre
  have hown : s.vm.findClass RX4 = some m.cls := findClass_of_methodNamed B.named
  have hlocks := B.notSynchronized
  have hi4 : ∀ w ∈ wsX40, w ∈ wsX4_hasSameEpoch := by decide +kernel
  have hi0 : ∀ w ∈ wsX00, w ∈ wsX4_hasSameEpoch := by decide +kernel
  have hl := lv_entry ([.ref (ra (5 * Gp + Gn)), .int xo, .ref (ra (5 * Gp + Gm))]) (n := 5) (Nat.le_of_ble_eq_true rfl)
  rw [lg_entry_eq]
  generalize (lg_sl ([.ref (ra (5 * Gp + Gn)), .int xo, .ref (ra (5 * Gp + Gm))]) ++ List.replicate (5 - (lg_sl ([.ref (ra (5 * Gp + Gn)), .int xo, .ref (ra (5 * Gp + Gm))])).length) Slot.unset).toArray = ls at hl ⊢
  have hl : lv_has ls 5 [(0, .ref (ra (5 * Gp + Gn))), (1, .int xo), (2, .ref (ra (5 * Gp + Gm)))] := hl
  have hn28 := hN.1
  have hn30 := hN.2.1
  have hn37 := hN.2.2.1
  have hC := hE.ct
  obtain ⟨n1g, n2g, n3g, n4g⟩ := id hN9
  obtain ⟨n1m, n2m, n3m, n4m⟩ := id hNm
  refine lv_aload_n hx hb dX4_hasSameEpoch_0 rfl (lv_at hl 0 rfl) ?_
  refine lv_iload_n hx hb dX4_hasSameEpoch_1 rfl (lv_at hl 1 rfl) ?_
  obtain ⟨j510061, hj510061⟩ := pG_4 (cy := cy) (N := N) (T := T) (I := I) (Q := Q) (J := J) (hE.rL hp hn hl9).1 (hE.rL hp hn hl9).2
  refine va_csq (W.runV (As := [.int xo]) (rest := []) ⟨hx, hb, hml, hown, hts⟩ (g_X4_entryAt l dC dI cy v L K N T I Q J pa ra kx σ Gp Gn xo hE hp hn hl9 hN9) (cwV 1 hts gX4_hasSameEpoch_X4_entryAt rfl rfl rfl (by decide +kernel) ⟨Nat.le_of_ble_eq_true rfl, Nat.le_of_ble_eq_true rfl⟩) ⟨pb_blind, va_recv hK hP (ci := 4) (q0 := j510061) rfl hj510061, fun U hU hW => ⟨rfl, pb_pre hP hK hN hU hW⟩⟩ rfl rfl hl.1 rfl (lv_room (Nat.le_of_ble_eq_true rfl)) dX4_hasSameEpoch_2 ⟨Nat.le_of_ble_eq_true rfl, Nat.le_of_ble_eq_true rfl⟩) (fun r510060 hr510060 => ?_)
  rcases hr510060 with ⟨hno510062, rfl⟩ | ⟨b510062, rfl, hb510062, hra510062, hbf510062⟩
  · refine W.eq (g2 := F0 m 5 ls [.null]) rfl ?_
    refine lv_astore_nN (lv' := [(3, .null), (0, .ref (ra (5 * Gp + Gn))), (1, .int xo), (2, .ref (ra (5 * Gp + Gm)))]) hx hb dX4_hasSameEpoch_5 rfl hl (by decide) rfl (fun ls hl => ?_)
    refine lv_aload_n hx hb dX4_hasSameEpoch_6 rfl (lv_at hl 3 rfl) ?_
    refine lv_iload_n hx hb dX4_hasSameEpoch_7 rfl (lv_at hl 2 rfl) ?_
    obtain ⟨j510064, hj510064⟩ := pG_4 (cy := cy) (N := N) (T := T) (I := I) (Q := Q) (J := J) (hE.rL hp hm hlm).1 (hE.rL hp hm hlm).2
    refine va_csq (W.runV (As := [.int xo]) (rest := []) ⟨hx, hb, hml, hown, hts⟩ (g_X4_entryAt l dC dI cy v L K N T I Q J pa ra kx σ Gp Gm xo hE hp hm hlm hNm) (cwV 1 hts gX4_hasSameEpoch_X4_entryAt rfl rfl rfl (by decide +kernel) ⟨Nat.le_of_ble_eq_true rfl, Nat.le_of_ble_eq_true rfl⟩) ⟨pb_blind, va_recv hK hP (ci := 4) (q0 := j510064) rfl hj510064, fun U hU hW => ⟨rfl, pb_pre hP hK hN hU hW⟩⟩ rfl rfl hl.1 rfl (lv_room (Nat.le_of_ble_eq_true rfl)) dX4_hasSameEpoch_8 ⟨Nat.le_of_ble_eq_true rfl, Nat.le_of_ble_eq_true rfl⟩) (fun r510063 hr510063 => ?_)
    rcases hr510063 with ⟨hno510065, rfl⟩ | ⟨b510065, rfl, hb510065, hra510065, hbf510065⟩
    · refine W.eq (g2 := F0 m 11 ls [.null]) rfl ?_
      refine lv_astoreN (lv' := [(4, .null), (3, .null), (0, .ref (ra (5 * Gp + Gn))), (1, .int xo), (2, .ref (ra (5 * Gp + Gm)))]) hx hb dX4_hasSameEpoch_11 hl (by decide) rfl (fun ls hl => ?_)
      refine lv_aload_nN hx hb dX4_hasSameEpoch_13 rfl (lv_at hl 1 rfl) ?_
      refine lv_ifnullN (tgt := 38) hx hb dX4_hasSameEpoch_14 (by decide) ?_
      refine lv_iconst (v := 0) hx hb dX4_hasSameEpoch_38 (by decide) ?_
      exact W.zret (v := 0) hx hb hr (by decide) (fun t ht hW => ⟨0, rfl, by show _ = _; rw [if_neg (fun q => hno510062 q.1.1)], ht⟩) (fun _ h => by cases h) dX4_hasSameEpoch_39
    · refine W.eq (g2 := F0 m 11 ls [.ref b510065]) rfl ?_
      obtain ⟨hra510065a, hra510065b⟩ := id hra510065
      refine lv_astore (lv' := [(4, .ref b510065), (3, .null), (0, .ref (ra (5 * Gp + Gn))), (1, .int xo), (2, .ref (ra (5 * Gp + Gm)))]) hx hb dX4_hasSameEpoch_11 hl (by decide) rfl (fun ls hl => ?_)
      refine lv_aload_nN hx hb dX4_hasSameEpoch_13 rfl (lv_at hl 1 rfl) ?_
      refine lv_ifnullN (tgt := 38) hx hb dX4_hasSameEpoch_14 (by decide) ?_
      refine lv_iconst (v := 0) hx hb dX4_hasSameEpoch_38 (by decide) ?_
      exact W.zret (v := 0) hx hb hr (by decide) (fun t ht hW => ⟨0, rfl, by show _ = _; rw [if_neg (fun q => hno510062 q.1.1)], ht⟩) (fun _ h => by cases h) dX4_hasSameEpoch_39
  · refine W.eq (g2 := F0 m 5 ls [.ref b510062]) rfl ?_
    obtain ⟨hra510062a, hra510062b⟩ := id hra510062
    refine lv_astore_n (lv' := [(3, .ref b510062), (0, .ref (ra (5 * Gp + Gn))), (1, .int xo), (2, .ref (ra (5 * Gp + Gm)))]) hx hb dX4_hasSameEpoch_5 rfl hl (by decide) rfl (fun ls hl => ?_)
    refine lv_aload_n hx hb dX4_hasSameEpoch_6 rfl (lv_at hl 3 rfl) ?_
    refine lv_iload_n hx hb dX4_hasSameEpoch_7 rfl (lv_at hl 2 rfl) ?_
    obtain ⟨j510067, hj510067⟩ := pG_4 (cy := cy) (N := N) (T := T) (I := I) (Q := Q) (J := J) (hE.rL hp hm hlm).1 (hE.rL hp hm hlm).2
    refine va_csq (W.runV (As := [.int xo]) (rest := []) ⟨hx, hb, hml, hown, hts⟩ (g_X4_entryAt l dC dI cy v L K N T I Q J pa ra kx σ Gp Gm xo hE hp hm hlm hNm) (cwV 1 hts gX4_hasSameEpoch_X4_entryAt rfl rfl rfl (by decide +kernel) ⟨Nat.le_of_ble_eq_true rfl, Nat.le_of_ble_eq_true rfl⟩) ⟨pb_blind, va_recv hK hP (ci := 4) (q0 := j510067) rfl hj510067, fun U hU hW => ⟨rfl, pb_pre hP hK hN hU hW⟩⟩ rfl rfl hl.1 rfl (lv_room (Nat.le_of_ble_eq_true rfl)) dX4_hasSameEpoch_8 ⟨Nat.le_of_ble_eq_true rfl, Nat.le_of_ble_eq_true rfl⟩) (fun r510066 hr510066 => ?_)
    rcases hr510066 with ⟨hno510068, rfl⟩ | ⟨b510068, rfl, hb510068, hra510068, hbf510068⟩
    · refine W.eq (g2 := F0 m 11 ls [.null]) rfl ?_
      refine lv_astoreN (lv' := [(4, .null), (3, .ref b510062), (0, .ref (ra (5 * Gp + Gn))), (1, .int xo), (2, .ref (ra (5 * Gp + Gm)))]) hx hb dX4_hasSameEpoch_11 hl (by decide) rfl (fun ls hl => ?_)
      refine lv_aload_n hx hb dX4_hasSameEpoch_13 rfl (lv_at hl 1 rfl) ?_
      refine lv_ifnull hx hb dX4_hasSameEpoch_14 ?_
      refine lv_aloadN hx hb dX4_hasSameEpoch_17 (lv_at hl 0 rfl) ?_
      refine lv_ifnullN (tgt := 38) hx hb dX4_hasSameEpoch_19 (by decide) ?_
      refine lv_iconst (v := 0) hx hb dX4_hasSameEpoch_38 (by decide) ?_
      exact W.zret (v := 0) hx hb hr (by decide) (fun t ht hW => ⟨0, rfl, by show _ = _; rw [if_neg (fun q => hno510068 q.1.2)], ht⟩) (fun _ h => by cases h) dX4_hasSameEpoch_39
    · refine W.eq (g2 := F0 m 11 ls [.ref b510068]) rfl ?_
      obtain ⟨hra510068a, hra510068b⟩ := id hra510068
      refine lv_astore (lv' := [(4, .ref b510068), (3, .ref b510062), (0, .ref (ra (5 * Gp + Gn))), (1, .int xo), (2, .ref (ra (5 * Gp + Gm)))]) hx hb dX4_hasSameEpoch_11 hl (by decide) rfl (fun ls hl => ?_)
      refine lv_aload_n hx hb dX4_hasSameEpoch_13 rfl (lv_at hl 1 rfl) ?_
      refine lv_ifnull hx hb dX4_hasSameEpoch_14 ?_
      refine lv_aload hx hb dX4_hasSameEpoch_17 (lv_at hl 0 rfl) ?_
      refine lv_ifnull hx hb dX4_hasSameEpoch_19 ?_
      refine lv_aload_n hx hb dX4_hasSameEpoch_22 rfl (lv_at hl 1 rfl) ?_
      obtain ⟨j510069, hj510069⟩ := pG_0 (cy := cy) (N := N) (T := T) (I := I) (Q := Q) (J := J) hb510062.1 hb510062.2
      refine va_get (D := (dC, dI)) (ci := 0) (v := .int (I b510062 0)) (C := RX0) (T := TX0) (N := 8) hx hb hts hi0 hown hK hP j510069 hj510069 rfl 0 (by decide) (hts (.fieldLink RX4 67 "TallyLogs$Entry" "epoch" "I") (by decide +kernel)) (fun _ h9 => h9) rfl dX4_hasSameEpoch_23 ?_
      refine lv_topi (fun x510070 ex510070 => ?_)
      have sx510070 : x510070 = σ.2.2 (5 * Gp + Gn) xo.toNatClampNeg 0 := ex510070.trans (hbf510062 0 (by decide))
      refine lv_aload hx hb dX4_hasSameEpoch_26 (lv_at hl 0 rfl) ?_
      obtain ⟨j510071, hj510071⟩ := pG_0 (cy := cy) (N := N) (T := T) (I := I) (Q := Q) (J := J) hb510068.1 hb510068.2
      refine va_get (D := (dC, dI)) (ci := 0) (v := .int (I b510068 0)) (C := RX0) (T := TX0) (N := 8) hx hb hts hi0 hown hK hP j510071 hj510071 rfl 0 (by decide) (hts (.fieldLink RX4 67 "TallyLogs$Entry" "epoch" "I") (by decide +kernel)) (fun _ h9 => h9) rfl dX4_hasSameEpoch_28 ?_
      refine lv_topi (fun x510072 ex510072 => ?_)
      have sx510072 : x510072 = σ.2.2 (5 * Gp + Gm) xo.toNatClampNeg 0 := ex510072.trans (hbf510068 0 (by decide))
      refine lv_icmp_ne (tgt := 38) hx hb dX4_hasSameEpoch_31 (by decide) (fun c510073 => ?_) (fun c510073 => ?_)
      · have kc510073 : ¬ (x510070.toInt = x510072.toInt) := by have h9 := c510073; rw [xk_eq] at h9; exact h9
        refine lv_iconst (v := 0) hx hb dX4_hasSameEpoch_38 (by decide) ?_
        exact W.zret (v := 0) hx hb hr (by decide) (fun t ht hW => ⟨0, rfl, by show _ = _; rw [if_neg (fun q => c510073 (by rw [sx510070, sx510072]; exact q.2))], ht⟩) (fun _ h => by cases h) dX4_hasSameEpoch_39
      · have kc510073 : x510070.toInt = x510072.toInt := by have h9 := c510073; rw [xk_eq] at h9; exact h9
        refine lv_iconst (v := 1) hx hb dX4_hasSameEpoch_34 (by decide) ?_
        refine lv_goto (tgt := 39) hx hb dX4_hasSameEpoch_35 (by decide) ?_
        exact W.zret (v := 1) hx hb hr (by decide) (fun t ht hW => ⟨1, rfl, by show _ = _; rw [if_pos ⟨⟨hra510062, hra510068⟩, by rw [← sx510070, ← sx510072]; exact c510073⟩], ht⟩) (fun _ h => by cases h) dX4_hasSameEpoch_39
set_option maxHeartbeats 4000000 in
set_option maxRecDepth 100000 in
/-- Replica.firstVisible, exactly -/
theorem g_X4_firstVisible (l : Launch) (dC : Nat → ClassId) (dI : Nat → Nat → Nat) (cy : Nat → ClassId) (v : Nat → Nat) (L : List Nat) (K N : Nat → Nat) (T : Nat → Nat → Nat) (I : Nat → Nat → Int32) (Q : Nat → Nat → Option Nat) (J : Nat → Nat → Int32) (pa ra : Nat → Nat) (kx : Nat → Prop) (σ : SG) (Gp Gn : Nat) (xo cm : Int32) (hE : REP v pa ra L K N T I Q J kx σ) (hp : Gp < 4) (hn : Gn < 5) (hl9 : lvj σ Gp Gn) (hN9 : LN (σ.2.1 (5 * Gp + Gn))) (hRK : RK σ (5 * Gp + Gn)) (h1 : (σ.2.1 (5 * Gp + Gn) 1).toInt ≤ xo.toInt) (h3 : (σ.2.1 (5 * Gp + Gn) 3).toInt ≤ (σ.2.1 (5 * Gp + Gn) 2).toInt) : Met l yX4_firstVisible wsX4_firstVisible ({ frames := 4, cells := 0, slots := 0, locals := 89 }) (va_Pc [.ref (ra (5 * Gp + Gn)), .int xo, .int cm] (pB dC dI cy L (pF cy K N T I Q J))) (vp_Si (fun r => r = oLv (fU (pVi σ (5 * Gp + Gn) cm) ((oMost σ (5 * Gp + Gn) cm).toNatClampNeg - xo.toNatClampNeg) xo.toNatClampNeg))) 0 0 (fun _ => False) := by
  refine Met.ofW (cc := cX4_firstVisible) (maxL := 6) (ret := (some .int)) (by decide) rfl ?_
  intro p e s m args below meth c s₁ B hml hv
  obtain ⟨rfl, hP, hK, hN⟩ := hv
  have hx := B.exec
  have hb := B.bytes
  have hr := B.returns
  have hts := atoms_spec (ws := wsX4_firstVisible) B.pre
  have hown : s.vm.findClass RX4 = some m.cls := findClass_of_methodNamed B.named
  have hlocks := B.notSynchronized
  have hi4 : ∀ w ∈ wsX40, w ∈ wsX4_firstVisible := by decide +kernel
  have hi0 : ∀ w ∈ wsX00, w ∈ wsX4_firstVisible := by decide +kernel
  have hl := lv_entry ([.ref (ra (5 * Gp + Gn)), .int xo, .int cm]) (n := 6) (Nat.le_of_ble_eq_true rfl)
  rw [lg_entry_eq]
  generalize (lg_sl ([.ref (ra (5 * Gp + Gn)), .int xo, .int cm]) ++ List.replicate (6 - (lg_sl ([.ref (ra (5 * Gp + Gn)), .int xo, .int cm])).length) Slot.unset).toArray = ls at hl ⊢
  have hl : lv_has ls 6 [(0, .ref (ra (5 * Gp + Gn))), (1, .int xo), (2, .int cm)] := hl
  have hn28 := hN.1
  have hn30 := hN.2.1
  have hn37 := hN.2.2.1
  have hC := hE.ct
  obtain ⟨n1g, n2g, n3g, n4g⟩ := id hN9
  refine lv_iload_n hx hb dX4_firstVisible_0 rfl (lv_at hl 2 rfl) ?_
  refine lv_if_eq (tgt := 18) hx hb dX4_firstVisible_1 (by decide) (fun c510074 => ?_) (fun c510074 => ?_)
  · have kc510074 : cm.toInt = 0 := by have h9 := c510074; rw [xk_eq, xk_0] at h9; exact h9
    refine lv_aload_n hx hb dX4_firstVisible_18 rfl (lv_at hl 0 rfl) ?_
    obtain ⟨j510075, hj510075⟩ := pG_4 (cy := cy) (N := N) (T := T) (I := I) (Q := Q) (J := J) (hE.rL hp hn hl9).1 (hE.rL hp hn hl9).2
    refine va_get (D := (dC, dI)) (ci := 4) (v := .int (I (ra (5 * Gp + Gn)) 3)) (C := RX4) (T := TX4) (N := 7) hx hb hts hi4 hown hK hP j510075 hj510075 rfl 3 (by decide) (hts (.fieldLink RX4 24 "TallyLogs$Replica" "hw" "I") (by decide +kernel)) (fun _ h9 => h9) rfl dX4_firstVisible_19 ?_
    refine lv_topi (fun x510076 ex510076 => ?_)
    have sx510076 : x510076 = σ.2.1 (5 * Gp + Gn) 3 := ex510076.trans (hE.g hp hn hl9 (by decide) (by decide) (by decide))
    have ux510076 := sx510076
    have tx510076 : x510076.toInt = (σ.2.1 (5 * Gp + Gn) 3).toInt := congrArg Int32.toInt sx510076
    refine lv_istore_n (lv' := [(3, .int x510076), (0, .ref (ra (5 * Gp + Gn))), (1, .int xo), (2, .int cm)]) hx hb dX4_firstVisible_22 rfl hl (by decide) rfl (fun ls hl => ?_)
    refine lv_iload_n hx hb dX4_firstVisible_23 rfl (lv_at hl 2 rfl) ?_
    refine lv_istore (lv' := [(4, .int xo), (3, .int x510076), (0, .ref (ra (5 * Gp + Gn))), (1, .int xo), (2, .int cm)]) hx hb dX4_firstVisible_24 hl (by decide) rfl (fun ls hl => ?_)
    refine wq_gen (fun Qz hQz => ?_)
    have hLP510077 : ∀ (n : Nat) (y510078 : Int32) (ls : Array Slot), ((x510076).toInt - y510078.toInt).toNat < n → 0 ≤ y510078.toInt → (xo.toInt ≤ y510078.toInt ∧ fU (pVi σ (5 * Gp + Gn) cm) (x510076.toNatClampNeg - y510078.toNatClampNeg) y510078.toNatClampNeg = fU (pVi σ (5 * Gp + Gn) cm) (x510076.toNatClampNeg - xo.toNatClampNeg) xo.toNatClampNeg) → lv_has ls 6 [(4, .int y510078), (3, .int x510076), (0, .ref (ra (5 * Gp + Gn))), (1, .int xo), (2, .int cm)] → W p l e (headSpec wsX4_firstVisible ({ frames := 4, cells := 0, slots := 0, locals := 89 })).room s m ([.ref (ra (5 * Gp + Gn)), .int xo, .int cm] : List Value).toArray below meth c s.heap [] 0 0 Qz (F0 m 26 ls []) := by
      intro n
      induction n with
      | zero => intro y510078 ls hms; exact absurd hms (Nat.not_lt_zero _)
      | succ n ih510077 =>
        intro y510078 ls hms hnn510077 hiv510077 hl
        obtain ⟨hiw, _⟩ := id hiv510077
        refine lv_iload hx hb dX4_firstVisible_26 (lv_at hl 0 rfl) ?_
        refine lv_iload_n hx hb dX4_firstVisible_28 rfl (lv_at hl 1 rfl) ?_
        refine lv_icmp_ge (tgt := 77) hx hb dX4_firstVisible_29 (by decide) (fun c510079 => ?_) (fun c510079 => ?_)
        · have kc510079 : x510076.toInt ≤ y510078.toInt := by have h9 := c510079; rw [xk_le] at h9; exact h9
          refine lv_iconst (v := (-1)) hx hb dX4_firstVisible_77 (by decide) ?_
          rw [hQz]
          exact W.iret (v := (-1)) hx hb hr (fun t ht hW => ⟨(-1), rfl, by have hmo : oMost σ (5 * Gp + Gn) cm = x510076 := (by rw [oMost, if_pos c510074]; exact sx510076.symm); show _ = _; rw [hmo, ← hiv510077.2, fU_end (by rw [clT, clT]; omega)]; rfl, ht⟩) (fun _ h => by cases h) dX4_firstVisible_78
        · have kc510079 : ¬ (x510076.toInt ≤ y510078.toInt) := by have h9 := c510079; rw [xk_le] at h9; exact h9
          refine lv_aload_n hx hb dX4_firstVisible_32 rfl (lv_at hl 2 rfl) ?_
          refine lv_iload hx hb dX4_firstVisible_33 (lv_at hl 0 rfl) ?_
          obtain ⟨j510081, hj510081⟩ := pG_4 (cy := cy) (N := N) (T := T) (I := I) (Q := Q) (J := J) (hE.rL hp hn hl9).1 (hE.rL hp hn hl9).2
          refine va_csq (W.runV (As := [.int y510078]) (rest := []) ⟨hx, hb, hml, hown, hts⟩ (g_X4_entryAt l dC dI cy v L K N T I Q J pa ra kx σ Gp Gn y510078 hE hp hn hl9 hN9) (cwV 1 hts gX4_firstVisible_X4_entryAt rfl rfl rfl (by decide +kernel) ⟨Nat.le_of_ble_eq_true rfl, Nat.le_of_ble_eq_true rfl⟩) ⟨pb_blind, va_recv hK hP (ci := 4) (q0 := j510081) rfl hj510081, fun U hU hW => ⟨rfl, pb_pre hP hK hN hU hW⟩⟩ rfl rfl hl.1 rfl (lv_room (Nat.le_of_ble_eq_true rfl)) dX4_firstVisible_35 ⟨Nat.le_of_ble_eq_true rfl, Nat.le_of_ble_eq_true rfl⟩) (fun r510080 hr510080 => ?_)
          rcases hr510080 with ⟨hno510082, rfl⟩ | ⟨b510082, rfl, hb510082, hra510082, hbf510082⟩
          · refine W.eq (g2 := F0 m 38 ls [.null]) rfl ?_
            exact absurd ⟨by omega, by omega⟩ hno510082
          · refine W.eq (g2 := F0 m 38 ls [.ref b510082]) rfl ?_
            obtain ⟨hra510082a, hra510082b⟩ := id hra510082
            refine lv_astore (lv' := [(5, .ref b510082), (4, .int y510078), (3, .int x510076), (0, .ref (ra (5 * Gp + Gn))), (1, .int xo), (2, .int cm)]) hx hb dX4_firstVisible_38 hl (by decide) rfl (fun ls hl => ?_)
            refine lv_aload hx hb dX4_firstVisible_40 (lv_at hl 0 rfl) ?_
            refine lv_ifnull hx hb dX4_firstVisible_42 ?_
            refine lv_aload hx hb dX4_firstVisible_45 (lv_at hl 0 rfl) ?_
            obtain ⟨j510083, hj510083⟩ := pG_0 (cy := cy) (N := N) (T := T) (I := I) (Q := Q) (J := J) hb510082.1 hb510082.2
            refine va_get (D := (dC, dI)) (ci := 0) (v := .int (I b510082 1)) (C := RX0) (T := TX0) (N := 8) hx hb hts hi0 hown hK hP j510083 hj510083 rfl 1 (by decide) (hts (.fieldLink RX4 82 "TallyLogs$Entry" "kind" "I") (by decide +kernel)) (fun _ h9 => h9) rfl dX4_firstVisible_47 ?_
            refine lv_topi (fun x510084 ex510084 => ?_)
            have sx510084 : x510084 = σ.2.2 (5 * Gp + Gn) y510078.toNatClampNeg 1 := ex510084.trans (hbf510082 1 (by decide))
            refine lv_if_ne (tgt := 71) hx hb dX4_firstVisible_50 (by decide) (fun c510085 => ?_) (fun c510085 => ?_)
            · have kc510085 : ¬ (x510084.toInt = 0) := by have h9 := c510085; rw [xk_eq, xk_0] at h9; exact h9
              obtain ⟨v510086, ev510086⟩ : ∃ y : Int32, y = y510078 + Int32.ofInt 1 := ⟨_, rfl⟩
              refine lv_iinc (v := v510086) (lv' := [(4, .int v510086), (5, .ref b510082), (3, .int x510076), (0, .ref (ra (5 * Gp + Gn))), (1, .int xo), (2, .int cm)]) hx hb dX4_firstVisible_71 hl (k := 1) rfl ev510086.symm (by decide) rfl (fun ls hl => ?_)
              refine lv_goto (tgt := 26) hx hb dX4_firstVisible_74 (by decide) ?_
              have tv510086 : v510086.toInt = y510078.toInt + 1 := by rw [ev510086, show y510078 + Int32.ofInt 1 = y510078 + 1 from rfl]; exact xinc (y := x510076) (by rw [xk_lt]; omega)
              exact ih510077 _ _ (by omega) (by omega) (⟨by omega, by rw [clsucc (y := y510078) (by omega) tv510086, ← fU_step (by rw [clT, clT]; omega) (fun q => c510085 (by rw [sx510084]; exact (of_decide_eq_true q).1))]; exact hiv510077.2⟩)  (lv_sub hl [0, 2, 3, 4, 5] rfl)
            · have kc510085 : x510084.toInt = 0 := by have h9 := c510085; rw [xk_eq, xk_0] at h9; exact h9
              refine lv_iload_n hx hb dX4_firstVisible_53 rfl (lv_at hl 5 rfl) ?_
              refine lv_if_eq (tgt := 68) hx hb dX4_firstVisible_54 (by decide) (fun c510087 => ?_) (fun c510087 => ?_)
              · have kc510087 : cm.toInt = 0 := by have h9 := c510087; rw [xk_eq, xk_0] at h9; exact h9
                refine lv_iload hx hb dX4_firstVisible_68 (lv_at hl 1 rfl) ?_
                rw [hQz]
                exact W.iret (v := y510078) hx hb hr (fun t ht hW => ⟨y510078, rfl, by have hmo : oMost σ (5 * Gp + Gn) cm = x510076 := (by rw [oMost, if_pos c510074]; exact sx510076.symm); show _ = _; rw [hmo, ← hiv510077.2, fU_hit (by rw [clT, clT]; omega) (decide_eq_true ⟨by rw [← sx510084]; exact c510085, fun q => q.1 c510087⟩)]; exact xcl9 (by omega), ht⟩) (fun _ h => by cases h) dX4_firstVisible_70
              · have kc510087 : ¬ (cm.toInt = 0) := by have h9 := c510087; rw [xk_eq, xk_0] at h9; exact h9
                refine lv_aload_n hx hb dX4_firstVisible_57 rfl (lv_at hl 3 rfl) ?_
                refine lv_aload hx hb dX4_firstVisible_58 (lv_at hl 0 rfl) ?_
                refine lv_iload hx hb dX4_firstVisible_60 (lv_at hl 1 rfl) ?_
                obtain ⟨j510089, hj510089⟩ := pG_4 (cy := cy) (N := N) (T := T) (I := I) (Q := Q) (J := J) (hE.rL hp hn hl9).1 (hE.rL hp hn hl9).2
                refine vp_callSi (W.runV (As := [.ref b510082, .int y510078]) (rest := []) ⟨hx, hb, hml, hown, hts⟩ (g_X4_isAborted l dC dI cy v L K N T I Q J pa ra kx σ Gp Gn b510082 y510078 hE hp hn hl9 hN9 hb510082.1 hb510082.2 hRK (by omega) (by omega) hbf510082) (cwV 2 hts gX4_firstVisible_X4_isAborted rfl rfl rfl (by decide +kernel) ⟨Nat.le_of_ble_eq_true rfl, Nat.le_of_ble_eq_true rfl⟩) ⟨pb_blind, va_recv hK hP (ci := 4) (q0 := j510089) rfl hj510089, fun U hU hW => ⟨rfl, pb_pre hP hK hN hU hW⟩⟩ rfl rfl hl.1 rfl (lv_room (Nat.le_of_ble_eq_true rfl)) dX4_firstVisible_62 ⟨Nat.le_of_ble_eq_true rfl, Nat.le_of_ble_eq_true rfl⟩) (fun r510088 hr510088 => ?_)
                refine lv_if_ne (tgt := 71) hx hb dX4_firstVisible_65 (by decide) (fun c510090 => ?_) (fun c510090 => ?_)
                · have kc510090 : ¬ (r510088.toInt = 0) := by have h9 := c510090; rw [xk_eq, xk_0] at h9; exact h9
                  obtain ⟨v510091, ev510091⟩ : ∃ y : Int32, y = y510078 + Int32.ofInt 1 := ⟨_, rfl⟩
                  refine lv_iinc (v := v510091) (lv' := [(4, .int v510091), (5, .ref b510082), (3, .int x510076), (0, .ref (ra (5 * Gp + Gn))), (1, .int xo), (2, .int cm)]) hx hb dX4_firstVisible_71 hl (k := 1) rfl ev510091.symm (by decide) rfl (fun ls hl => ?_)
                  refine lv_goto (tgt := 26) hx hb dX4_firstVisible_74 (by decide) ?_
                  have tv510091 : v510091.toInt = y510078.toInt + 1 := by rw [ev510091, show y510078 + Int32.ofInt 1 = y510078 + 1 from rfl]; exact xinc (y := x510076) (by rw [xk_lt]; omega)
                  exact ih510077 _ _ (by omega) (by omega) (⟨by omega, by rw [clsucc (y := y510078) (by omega) tv510091, ← fU_step (by rw [clT, clT]; omega) (fun q => (of_decide_eq_true q).2 ⟨c510087, hRK.bd (zb_le (by omega)) (lt_ze (by omega) (by omega)) (by rw [← hbf510082 7 (by decide)]; exact (ite1_1 hr510088 c510090).1), (ite1_1 hr510088 c510090).2⟩)]; exact hiv510077.2⟩)  (lv_sub hl [0, 2, 3, 4, 5] rfl)
                · have kc510090 : r510088.toInt = 0 := by have h9 := c510090; rw [xk_eq, xk_0] at h9; exact h9
                  refine lv_iload hx hb dX4_firstVisible_68 (lv_at hl 1 rfl) ?_
                  rw [hQz]
                  exact W.iret (v := y510078) hx hb hr (fun t ht hW => ⟨y510078, rfl, by have hmo : oMost σ (5 * Gp + Gn) cm = x510076 := (by rw [oMost, if_pos c510074]; exact sx510076.symm); show _ = _; rw [hmo, ← hiv510077.2, fU_hit (by rw [clT, clT]; omega) (decide_eq_true ⟨by rw [← sx510084]; exact c510085, fun q => ite1_0 hr510088 c510090 ⟨by rw [hbf510082 7 (by decide), q.2.1]; decide, q.2.2⟩⟩)]; exact xcl9 (by omega), ht⟩) (fun _ h => by cases h) dX4_firstVisible_70
    exact hLP510077 _ _ _ (Nat.lt_succ_self _) (by omega) (⟨by omega, rfl⟩)  (lv_sub hl [0, 1, 2, 3, 4] rfl)
  · have kc510074 : ¬ (cm.toInt = 0) := by have h9 := c510074; rw [xk_eq, xk_0] at h9; exact h9
    refine lv_aload_n hx hb dX4_firstVisible_4 rfl (lv_at hl 0 rfl) ?_
    obtain ⟨j510092, hj510092⟩ := pG_4 (cy := cy) (N := N) (T := T) (I := I) (Q := Q) (J := J) (hE.rL hp hn hl9).1 (hE.rL hp hn hl9).2
    refine va_get (D := (dC, dI)) (ci := 4) (v := .int (I (ra (5 * Gp + Gn)) 3)) (C := RX4) (T := TX4) (N := 7) hx hb hts hi4 hown hK hP j510092 hj510092 rfl 3 (by decide) (hts (.fieldLink RX4 24 "TallyLogs$Replica" "hw" "I") (by decide +kernel)) (fun _ h9 => h9) rfl dX4_firstVisible_5 ?_
    refine lv_topi (fun x510093 ex510093 => ?_)
    have sx510093 : x510093 = σ.2.1 (5 * Gp + Gn) 3 := ex510093.trans (hE.g hp hn hl9 (by decide) (by decide) (by decide))
    have ux510093 := sx510093
    have tx510093 : x510093.toInt = (σ.2.1 (5 * Gp + Gn) 3).toInt := congrArg Int32.toInt sx510093
    refine lv_aload_n hx hb dX4_firstVisible_8 rfl (lv_at hl 0 rfl) ?_
    obtain ⟨j510095, hj510095⟩ := pG_4 (cy := cy) (N := N) (T := T) (I := I) (Q := Q) (J := J) (hE.rL hp hn hl9).1 (hE.rL hp hn hl9).2
    refine vp_callSi (W.runV (As := []) (rest := [.int x510093]) ⟨hx, hb, hml, hown, hts⟩ (g_X4_firstOpen l dC dI cy v L K N T I Q J pa ra kx σ Gp Gn hE hp hn hl9 hN9 hRK) (cwV 0 hts gX4_firstVisible_X4_firstOpen rfl rfl rfl (by decide +kernel) ⟨Nat.le_of_ble_eq_true rfl, Nat.le_of_ble_eq_true rfl⟩) ⟨pb_blind, va_recv hK hP (ci := 4) (q0 := j510095) rfl hj510095, fun U hU hW => ⟨rfl, pb_pre hP hK hN hU hW⟩⟩ rfl rfl hl.1 rfl (lv_room (Nat.le_of_ble_eq_true rfl)) dX4_firstVisible_9 ⟨Nat.le_of_ble_eq_true rfl, Nat.le_of_ble_eq_true rfl⟩) (fun r510094 hr510094 => ?_)
    refine va_mmin hx hb (by rw [hml]; exact hl.1.symm) hown (hts (.methodLink RX4 49 Lib.Math.min.name) (by decide +kernel)) (hts (.static Lib.Math.min.name) (by decide +kernel)) (hts (.initialized "java/lang/Math") (by decide +kernel)) (hts _ (List.mem_of_getElem? (i := 5) rfl)) (Nat.le_of_ble_eq_true rfl) (Nat.le_of_ble_eq_true rfl) (Nat.le_of_ble_eq_true rfl) (Nat.le_of_ble_eq_true rfl) dX4_firstVisible_12 ?_
    refine lv_topi (fun z510096 ez510096 => ?_)
    have tz510096 : z510096.toInt = min x510093.toInt r510094.toInt := xmin_t ez510096
    refine lv_goto (tgt := 22) hx hb dX4_firstVisible_15 (by decide) ?_
    refine lv_istore_n (lv' := [(3, .int z510096), (0, .ref (ra (5 * Gp + Gn))), (1, .int xo), (2, .int cm)]) hx hb dX4_firstVisible_22 rfl hl (by decide) rfl (fun ls hl => ?_)
    refine lv_iload_n hx hb dX4_firstVisible_23 rfl (lv_at hl 2 rfl) ?_
    refine lv_istore (lv' := [(4, .int xo), (3, .int z510096), (0, .ref (ra (5 * Gp + Gn))), (1, .int xo), (2, .int cm)]) hx hb dX4_firstVisible_24 hl (by decide) rfl (fun ls hl => ?_)
    refine wq_gen (fun Qz hQz => ?_)
    have hLP510097 : ∀ (n : Nat) (y510098 : Int32) (ls : Array Slot), ((z510096).toInt - y510098.toInt).toNat < n → 0 ≤ y510098.toInt → (xo.toInt ≤ y510098.toInt ∧ fU (pVi σ (5 * Gp + Gn) cm) (z510096.toNatClampNeg - y510098.toNatClampNeg) y510098.toNatClampNeg = fU (pVi σ (5 * Gp + Gn) cm) (z510096.toNatClampNeg - xo.toNatClampNeg) xo.toNatClampNeg) → lv_has ls 6 [(4, .int y510098), (3, .int z510096), (0, .ref (ra (5 * Gp + Gn))), (1, .int xo), (2, .int cm)] → W p l e (headSpec wsX4_firstVisible ({ frames := 4, cells := 0, slots := 0, locals := 89 })).room s m ([.ref (ra (5 * Gp + Gn)), .int xo, .int cm] : List Value).toArray below meth c s.heap [] 0 0 Qz (F0 m 26 ls []) := by
      intro n
      induction n with
      | zero => intro y510098 ls hms; exact absurd hms (Nat.not_lt_zero _)
      | succ n ih510097 =>
        intro y510098 ls hms hnn510097 hiv510097 hl
        obtain ⟨hiw, _⟩ := id hiv510097
        refine lv_iload hx hb dX4_firstVisible_26 (lv_at hl 0 rfl) ?_
        refine lv_iload_n hx hb dX4_firstVisible_28 rfl (lv_at hl 1 rfl) ?_
        refine lv_icmp_ge (tgt := 77) hx hb dX4_firstVisible_29 (by decide) (fun c510099 => ?_) (fun c510099 => ?_)
        · have kc510099 : z510096.toInt ≤ y510098.toInt := by have h9 := c510099; rw [xk_le] at h9; exact h9
          refine lv_iconst (v := (-1)) hx hb dX4_firstVisible_77 (by decide) ?_
          rw [hQz]
          exact W.iret (v := (-1)) hx hb hr (fun t ht hW => ⟨(-1), rfl, by have hmo : oMost σ (5 * Gp + Gn) cm = z510096 := (by rw [oMost, if_neg c510074, ez510096, sx510093, hr510094, imn]); show _ = _; rw [hmo, ← hiv510097.2, fU_end (by rw [clT, clT]; omega)]; rfl, ht⟩) (fun _ h => by cases h) dX4_firstVisible_78
        · have kc510099 : ¬ (z510096.toInt ≤ y510098.toInt) := by have h9 := c510099; rw [xk_le] at h9; exact h9
          refine lv_aload_n hx hb dX4_firstVisible_32 rfl (lv_at hl 2 rfl) ?_
          refine lv_iload hx hb dX4_firstVisible_33 (lv_at hl 0 rfl) ?_
          obtain ⟨j510101, hj510101⟩ := pG_4 (cy := cy) (N := N) (T := T) (I := I) (Q := Q) (J := J) (hE.rL hp hn hl9).1 (hE.rL hp hn hl9).2
          refine va_csq (W.runV (As := [.int y510098]) (rest := []) ⟨hx, hb, hml, hown, hts⟩ (g_X4_entryAt l dC dI cy v L K N T I Q J pa ra kx σ Gp Gn y510098 hE hp hn hl9 hN9) (cwV 1 hts gX4_firstVisible_X4_entryAt rfl rfl rfl (by decide +kernel) ⟨Nat.le_of_ble_eq_true rfl, Nat.le_of_ble_eq_true rfl⟩) ⟨pb_blind, va_recv hK hP (ci := 4) (q0 := j510101) rfl hj510101, fun U hU hW => ⟨rfl, pb_pre hP hK hN hU hW⟩⟩ rfl rfl hl.1 rfl (lv_room (Nat.le_of_ble_eq_true rfl)) dX4_firstVisible_35 ⟨Nat.le_of_ble_eq_true rfl, Nat.le_of_ble_eq_true rfl⟩) (fun r510100 hr510100 => ?_)
          rcases hr510100 with ⟨hno510102, rfl⟩ | ⟨b510102, rfl, hb510102, hra510102, hbf510102⟩
          · refine W.eq (g2 := F0 m 38 ls [.null]) rfl ?_
            exact absurd ⟨by omega, by omega⟩ hno510102
          · refine W.eq (g2 := F0 m 38 ls [.ref b510102]) rfl ?_
            obtain ⟨hra510102a, hra510102b⟩ := id hra510102
            refine lv_astore (lv' := [(5, .ref b510102), (4, .int y510098), (3, .int z510096), (0, .ref (ra (5 * Gp + Gn))), (1, .int xo), (2, .int cm)]) hx hb dX4_firstVisible_38 hl (by decide) rfl (fun ls hl => ?_)
            refine lv_aload hx hb dX4_firstVisible_40 (lv_at hl 0 rfl) ?_
            refine lv_ifnull hx hb dX4_firstVisible_42 ?_
            refine lv_aload hx hb dX4_firstVisible_45 (lv_at hl 0 rfl) ?_
            obtain ⟨j510103, hj510103⟩ := pG_0 (cy := cy) (N := N) (T := T) (I := I) (Q := Q) (J := J) hb510102.1 hb510102.2
            refine va_get (D := (dC, dI)) (ci := 0) (v := .int (I b510102 1)) (C := RX0) (T := TX0) (N := 8) hx hb hts hi0 hown hK hP j510103 hj510103 rfl 1 (by decide) (hts (.fieldLink RX4 82 "TallyLogs$Entry" "kind" "I") (by decide +kernel)) (fun _ h9 => h9) rfl dX4_firstVisible_47 ?_
            refine lv_topi (fun x510104 ex510104 => ?_)
            have sx510104 : x510104 = σ.2.2 (5 * Gp + Gn) y510098.toNatClampNeg 1 := ex510104.trans (hbf510102 1 (by decide))
            refine lv_if_ne (tgt := 71) hx hb dX4_firstVisible_50 (by decide) (fun c510105 => ?_) (fun c510105 => ?_)
            · have kc510105 : ¬ (x510104.toInt = 0) := by have h9 := c510105; rw [xk_eq, xk_0] at h9; exact h9
              obtain ⟨v510106, ev510106⟩ : ∃ y : Int32, y = y510098 + Int32.ofInt 1 := ⟨_, rfl⟩
              refine lv_iinc (v := v510106) (lv' := [(4, .int v510106), (5, .ref b510102), (3, .int z510096), (0, .ref (ra (5 * Gp + Gn))), (1, .int xo), (2, .int cm)]) hx hb dX4_firstVisible_71 hl (k := 1) rfl ev510106.symm (by decide) rfl (fun ls hl => ?_)
              refine lv_goto (tgt := 26) hx hb dX4_firstVisible_74 (by decide) ?_
              have tv510106 : v510106.toInt = y510098.toInt + 1 := by rw [ev510106, show y510098 + Int32.ofInt 1 = y510098 + 1 from rfl]; exact xinc (y := z510096) (by rw [xk_lt]; omega)
              exact ih510097 _ _ (by omega) (by omega) (⟨by omega, by rw [clsucc (y := y510098) (by omega) tv510106, ← fU_step (by rw [clT, clT]; omega) (fun q => c510105 (by rw [sx510104]; exact (of_decide_eq_true q).1))]; exact hiv510097.2⟩)  (lv_sub hl [0, 2, 3, 4, 5] rfl)
            · have kc510105 : x510104.toInt = 0 := by have h9 := c510105; rw [xk_eq, xk_0] at h9; exact h9
              refine lv_iload_n hx hb dX4_firstVisible_53 rfl (lv_at hl 5 rfl) ?_
              refine lv_if_eq (tgt := 68) hx hb dX4_firstVisible_54 (by decide) (fun c510107 => ?_) (fun c510107 => ?_)
              · have kc510107 : cm.toInt = 0 := by have h9 := c510107; rw [xk_eq, xk_0] at h9; exact h9
                refine lv_iload hx hb dX4_firstVisible_68 (lv_at hl 1 rfl) ?_
                rw [hQz]
                exact W.iret (v := y510098) hx hb hr (fun t ht hW => ⟨y510098, rfl, by have hmo : oMost σ (5 * Gp + Gn) cm = z510096 := (by rw [oMost, if_neg c510074, ez510096, sx510093, hr510094, imn]); show _ = _; rw [hmo, ← hiv510097.2, fU_hit (by rw [clT, clT]; omega) (decide_eq_true ⟨by rw [← sx510104]; exact c510105, fun q => q.1 c510107⟩)]; exact xcl9 (by omega), ht⟩) (fun _ h => by cases h) dX4_firstVisible_70
              · have kc510107 : ¬ (cm.toInt = 0) := by have h9 := c510107; rw [xk_eq, xk_0] at h9; exact h9
                refine lv_aload_n hx hb dX4_firstVisible_57 rfl (lv_at hl 3 rfl) ?_
                refine lv_aload hx hb dX4_firstVisible_58 (lv_at hl 0 rfl) ?_
                refine lv_iload hx hb dX4_firstVisible_60 (lv_at hl 1 rfl) ?_
                obtain ⟨j510109, hj510109⟩ := pG_4 (cy := cy) (N := N) (T := T) (I := I) (Q := Q) (J := J) (hE.rL hp hn hl9).1 (hE.rL hp hn hl9).2
                refine vp_callSi (W.runV (As := [.ref b510102, .int y510098]) (rest := []) ⟨hx, hb, hml, hown, hts⟩ (g_X4_isAborted l dC dI cy v L K N T I Q J pa ra kx σ Gp Gn b510102 y510098 hE hp hn hl9 hN9 hb510102.1 hb510102.2 hRK (by omega) (by omega) hbf510102) (cwV 2 hts gX4_firstVisible_X4_isAborted rfl rfl rfl (by decide +kernel) ⟨Nat.le_of_ble_eq_true rfl, Nat.le_of_ble_eq_true rfl⟩) ⟨pb_blind, va_recv hK hP (ci := 4) (q0 := j510109) rfl hj510109, fun U hU hW => ⟨rfl, pb_pre hP hK hN hU hW⟩⟩ rfl rfl hl.1 rfl (lv_room (Nat.le_of_ble_eq_true rfl)) dX4_firstVisible_62 ⟨Nat.le_of_ble_eq_true rfl, Nat.le_of_ble_eq_true rfl⟩) (fun r510108 hr510108 => ?_)
                refine lv_if_ne (tgt := 71) hx hb dX4_firstVisible_65 (by decide) (fun c510110 => ?_) (fun c510110 => ?_)
                · have kc510110 : ¬ (r510108.toInt = 0) := by have h9 := c510110; rw [xk_eq, xk_0] at h9; exact h9
                  obtain ⟨v510111, ev510111⟩ : ∃ y : Int32, y = y510098 + Int32.ofInt 1 := ⟨_, rfl⟩
                  refine lv_iinc (v := v510111) (lv' := [(4, .int v510111), (5, .ref b510102), (3, .int z510096), (0, .ref (ra (5 * Gp + Gn))), (1, .int xo), (2, .int cm)]) hx hb dX4_firstVisible_71 hl (k := 1) rfl ev510111.symm (by decide) rfl (fun ls hl => ?_)
                  refine lv_goto (tgt := 26) hx hb dX4_firstVisible_74 (by decide) ?_
                  have tv510111 : v510111.toInt = y510098.toInt + 1 := by rw [ev510111, show y510098 + Int32.ofInt 1 = y510098 + 1 from rfl]; exact xinc (y := z510096) (by rw [xk_lt]; omega)
                  exact ih510097 _ _ (by omega) (by omega) (⟨by omega, by rw [clsucc (y := y510098) (by omega) tv510111, ← fU_step (by rw [clT, clT]; omega) (fun q => (of_decide_eq_true q).2 ⟨c510107, hRK.bd (zb_le (by omega)) (lt_ze (by omega) (by omega)) (by rw [← hbf510102 7 (by decide)]; exact (ite1_1 hr510108 c510110).1), (ite1_1 hr510108 c510110).2⟩)]; exact hiv510097.2⟩)  (lv_sub hl [0, 2, 3, 4, 5] rfl)
                · have kc510110 : r510108.toInt = 0 := by have h9 := c510110; rw [xk_eq, xk_0] at h9; exact h9
                  refine lv_iload hx hb dX4_firstVisible_68 (lv_at hl 1 rfl) ?_
                  rw [hQz]
                  exact W.iret (v := y510098) hx hb hr (fun t ht hW => ⟨y510098, rfl, by have hmo : oMost σ (5 * Gp + Gn) cm = z510096 := (by rw [oMost, if_neg c510074, ez510096, sx510093, hr510094, imn]); show _ = _; rw [hmo, ← hiv510097.2, fU_hit (by rw [clT, clT]; omega) (decide_eq_true ⟨by rw [← sx510104]; exact c510105, fun q => ite1_0 hr510108 c510110 ⟨by rw [hbf510102 7 (by decide), q.2.1]; decide, q.2.2⟩⟩)]; exact xcl9 (by omega), ht⟩) (fun _ h => by cases h) dX4_firstVisible_70
    exact hLP510097 _ _ _ (Nat.lt_succ_self _) (by omega) (⟨by omega, rfl⟩)  (lv_sub hl [0, 1, 2, 3, 4] rfl)
