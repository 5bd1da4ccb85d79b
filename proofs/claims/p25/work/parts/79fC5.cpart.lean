set_option maxHeartbeats 4000000 in
set_option maxRecDepth 100000 in
/-- Replica.nextSeq, exactly -/
theorem g_X4_nextSeq (l : Launch) (dC : Nat → ClassId) (dI : Nat → Nat → Nat) (cy : Nat → ClassId) (v : Nat → Nat) (L : List Nat) (K N : Nat → Nat) (T : Nat → Nat → Nat) (I : Nat → Nat → Int32) (Q : Nat → Nat → Option Nat) (J : Nat → Nat → Int32) (pa ra : Nat → Nat) (kx : Nat → Prop) (σ : SG) (Gp Gn : Nat) (ka kb : Int32) (hE : REP v pa ra L K N T I Q J kx σ) (hp : Gp < 4) (hn : Gn < 5) (hl9 : lvj σ Gp Gn) (hN9 : LN (σ.2.1 (5 * Gp + Gn))) : Met l yX4_nextSeq wsX4_nextSeq ({ frames := 2, cells := 0, slots := 0, locals := 43 }) (va_Pc [.ref (ra (5 * Gp + Gn)), .int ka, .int kb] (pB dC dI cy L (pF cy K N T I Q J))) (vp_Si (fun r => r = oNq σ (5 * Gp + Gn) ka kb)) 0 0 (fun _ => False) := by
  refine Met.ofW (cc := cX4_nextSeq) (maxL := 5) (ret := (some .int)) (by decide) rfl ?_
  intro p e s m args below meth c s₁ B hml hv
  obtain ⟨rfl, hP, hK, hN⟩ := hv
  have hx := B.exec
  have hb := B.bytes
  have hr := B.returns
  have hts := atoms_spec (ws := wsX4_nextSeq) B.pre
  have hown : s.vm.findClass RX4 = some m.cls := findClass_of_methodNamed B.named
  have hlocks := B.notSynchronized
  have hi4 : ∀ w ∈ wsX40, w ∈ wsX4_nextSeq := by decide +kernel
  have hi0 : ∀ w ∈ wsX00, w ∈ wsX4_nextSeq := by decide +kernel
  have hl := lv_entry ([.ref (ra (5 * Gp + Gn)), .int ka, .int kb]) (n := 5) (Nat.le_of_ble_eq_true rfl)
  rw [lg_entry_eq]
  generalize (lg_sl ([.ref (ra (5 * Gp + Gn)), .int ka, .int kb]) ++ List.replicate (5 - (lg_sl ([.ref (ra (5 * Gp + Gn)), .int ka, .int kb])).length) Slot.unset).toArray = ls at hl ⊢
  have hl : lv_has ls 5 [(0, .ref (ra (5 * Gp + Gn))), (1, .int ka), (2, .int kb)] := hl
  have hn28 := hN.1
  have hn30 := hN.2.1
  have hn37 := hN.2.2.1
  have hC := hE.ct
  obtain ⟨n1g, n2g, n3g, n4g⟩ := id hN9
  refine lv_aload_n hx hb dX4_nextSeq_0 rfl (lv_at hl 0 rfl) ?_
  obtain ⟨j540001, hj540001⟩ := pG_4 (cy := cy) (N := N) (T := T) (I := I) (Q := Q) (J := J) (hE.rL hp hn hl9).1 (hE.rL hp hn hl9).2
  refine va_get (D := (dC, dI)) (ci := 4) (v := .int (I (ra (5 * Gp + Gn)) 2)) (C := RX4) (T := TX4) (N := 7) hx hb hts hi4 hown hK hP j540001 hj540001 rfl 2 (by decide) (hts (.fieldLink RX4 21 "TallyLogs$Replica" "end" "I") (by decide +kernel)) (fun _ h9 => h9) rfl dX4_nextSeq_1 ?_
  refine lv_topi (fun x540002 ex540002 => ?_)
  have sx540002 : x540002 = σ.2.1 (5 * Gp + Gn) 2 := ex540002.trans (hE.g hp hn hl9 (by decide) (by decide) (by decide))
  have ux540002 := sx540002
  have tx540002 : x540002.toInt = (σ.2.1 (5 * Gp + Gn) 2).toInt := congrArg Int32.toInt sx540002
  refine lv_iconst (v := 1) hx hb dX4_nextSeq_4 (by decide) ?_
  refine lv_isub hx hb dX4_nextSeq_5 ?_
  refine lv_topi (fun v540003 ev540003 => ?_)
  have tv540003 : v540003.toInt = x540002.toInt - 1 := by rw [ev540003]; exact (xsub (by rw [xk_1]; omega) (by rw [xk_1]; omega)).trans (by rw [xk_1])
  refine lv_istore_n (lv' := [(3, .int v540003), (0, .ref (ra (5 * Gp + Gn))), (1, .int ka), (2, .int kb)]) hx hb dX4_nextSeq_6 rfl hl (by decide) rfl (fun ls hl => ?_)
  refine wq_gen (fun Qz hQz => ?_)
  have hLP540004 : ∀ (n : Nat) (y540005 : Int32) (ls : Array Slot), (y540005.toInt - (σ.2.1 (5 * Gp + Gn) 1).toInt + 1).toNat < n → ((σ.2.1 (5 * Gp + Gn) 1).toInt ≤ y540005.toInt + 1 ∧ y540005.toInt < (σ.2.1 (5 * Gp + Gn) 2).toInt ∧ fD (pDt σ (5 * Gp + Gn) ka kb) (zb σ (5 * Gp + Gn)) ((y540005.toInt + 1).toNat - zb σ (5 * Gp + Gn)) = fD (pDt σ (5 * Gp + Gn) ka kb) (zb σ (5 * Gp + Gn)) (ze σ (5 * Gp + Gn) - zb σ (5 * Gp + Gn))) → lv_has ls 5 [(3, .int y540005), (0, .ref (ra (5 * Gp + Gn))), (1, .int ka), (2, .int kb)] → W p l e (headSpec wsX4_nextSeq ({ frames := 2, cells := 0, slots := 0, locals := 43 })).room s m ([.ref (ra (5 * Gp + Gn)), .int ka, .int kb] : List Value).toArray below meth c s.heap [] 0 0 Qz (F0 m 7 ls []) := by
    intro n
    induction n with
    | zero => intro y540005 ls hms; exact absurd hms (Nat.not_lt_zero _)
    | succ n ih540004 =>
      intro y540005 ls hms hiv540004 hl
      obtain ⟨hiw, hiw2, _⟩ := id hiv540004
      refine lv_iload_n hx hb dX4_nextSeq_7 rfl (lv_at hl 0 rfl) ?_
      refine lv_aload_n hx hb dX4_nextSeq_8 rfl (lv_at hl 1 rfl) ?_
      obtain ⟨j540006, hj540006⟩ := pG_4 (cy := cy) (N := N) (T := T) (I := I) (Q := Q) (J := J) (hE.rL hp hn hl9).1 (hE.rL hp hn hl9).2
      refine va_get (D := (dC, dI)) (ci := 4) (v := .int (I (ra (5 * Gp + Gn)) 1)) (C := RX4) (T := TX4) (N := 7) hx hb hts hi4 hown hK hP j540006 hj540006 rfl 1 (by decide) (hts (.fieldLink RX4 17 "TallyLogs$Replica" "start" "I") (by decide +kernel)) (fun _ h9 => h9) rfl dX4_nextSeq_9 ?_
      refine lv_topi (fun x540007 ex540007 => ?_)
      have sx540007 : x540007 = σ.2.1 (5 * Gp + Gn) 1 := ex540007.trans (hE.g hp hn hl9 (by decide) (by decide) (by decide))
      have ux540007 := sx540007
      have tx540007 : x540007.toInt = (σ.2.1 (5 * Gp + Gn) 1).toInt := congrArg Int32.toInt sx540007
      refine lv_icmp_lt (tgt := 51) hx hb dX4_nextSeq_12 (by decide) (fun c540008 => ?_) (fun c540008 => ?_)
      · have kc540008 : y540005.toInt < x540007.toInt := by have h9 := c540008; rw [xk_lt] at h9; exact h9
        refine lv_iconst (v := 0) hx hb dX4_nextSeq_51 (by decide) ?_
        rw [hQz]
        exact W.iret (v := 0) hx hb hr (fun t ht hW => ⟨0, rfl, by show _ = _; unfold oNq; rw [← hiv540004.2.2, show (y540005.toInt + 1).toNat - zb σ (5 * Gp + Gn) = 0 by unfold zb; rw [clT]; omega]; rfl, ht⟩) (fun _ h => by cases h) dX4_nextSeq_52
      · have kc540008 : ¬ (y540005.toInt < x540007.toInt) := by have h9 := c540008; rw [xk_lt] at h9; exact h9
        refine lv_aload_n hx hb dX4_nextSeq_15 rfl (lv_at hl 1 rfl) ?_
        refine lv_iload_n hx hb dX4_nextSeq_16 rfl (lv_at hl 0 rfl) ?_
        obtain ⟨j540010, hj540010⟩ := pG_4 (cy := cy) (N := N) (T := T) (I := I) (Q := Q) (J := J) (hE.rL hp hn hl9).1 (hE.rL hp hn hl9).2
        refine va_csq (W.runV (As := [.int y540005]) (rest := []) ⟨hx, hb, hml, hown, hts⟩ (g_X4_entryAt l dC dI cy v L K N T I Q J pa ra kx σ Gp Gn y540005 hE hp hn hl9 hN9) (cwV 1 hts gX4_nextSeq_X4_entryAt rfl rfl rfl (by decide +kernel) ⟨Nat.le_of_ble_eq_true rfl, Nat.le_of_ble_eq_true rfl⟩) ⟨pb_blind, va_recv hK hP (ci := 4) (q0 := j540010) rfl hj540010, fun U hU hW => ⟨rfl, pb_pre hP hK hN hU hW⟩⟩ rfl rfl hl.1 rfl (lv_room (Nat.le_of_ble_eq_true rfl)) dX4_nextSeq_17 ⟨Nat.le_of_ble_eq_true rfl, Nat.le_of_ble_eq_true rfl⟩) (fun r540009 hr540009 => ?_)
        rcases hr540009 with ⟨hno540011, rfl⟩ | ⟨b540011, rfl, hb540011, hra540011, hbf540011⟩
        · refine W.eq (g2 := F0 m 20 ls [.null]) rfl ?_
          exact absurd ⟨by omega, by omega⟩ hno540011
        · refine W.eq (g2 := F0 m 20 ls [.ref b540011]) rfl ?_
          obtain ⟨hra540011a, hra540011b⟩ := id hra540011
          refine lv_astore (lv' := [(4, .ref b540011), (3, .int y540005), (0, .ref (ra (5 * Gp + Gn))), (1, .int ka), (2, .int kb)]) hx hb dX4_nextSeq_20 hl (by decide) rfl (fun ls hl => ?_)
          refine lv_aload hx hb dX4_nextSeq_22 (lv_at hl 0 rfl) ?_
          refine lv_ifnull hx hb dX4_nextSeq_24 ?_
          refine lv_aload hx hb dX4_nextSeq_27 (lv_at hl 0 rfl) ?_
          refine lv_iload_n hx hb dX4_nextSeq_29 rfl (lv_at hl 3 rfl) ?_
          refine lv_iload_n hx hb dX4_nextSeq_30 rfl (lv_at hl 4 rfl) ?_
          obtain ⟨j540013, hj540013⟩ := pG_0 (cy := cy) (N := N) (T := T) (I := I) (Q := Q) (J := J) hb540011.1 hb540011.2
          refine vp_callSi (W.runV (As := [.int ka, .int kb]) (rest := []) ⟨hx, hb, hml, hown, hts⟩ (g_X0_isDataBy l dC dI cy v L K N T I Q J b540011 ka kb hC hb540011.1 hb540011.2) (cwV 2 hts gX4_nextSeq_X0_isDataBy rfl rfl rfl (by decide +kernel) ⟨Nat.le_of_ble_eq_true rfl, Nat.le_of_ble_eq_true rfl⟩) ⟨pb_blind, va_recv hK hP (ci := 0) (q0 := j540013) rfl hj540013, fun U hU hW => ⟨rfl, pb_pre hP hK hN hU hW⟩⟩ rfl rfl hl.1 rfl (lv_room (Nat.le_of_ble_eq_true rfl)) dX4_nextSeq_31 ⟨Nat.le_of_ble_eq_true rfl, Nat.le_of_ble_eq_true rfl⟩) (fun r540012 hr540012 => ?_)
          refine lv_if_eq (tgt := 45) hx hb dX4_nextSeq_34 (by decide) (fun c540014 => ?_) (fun c540014 => ?_)
          · have kc540014 : r540012.toInt = 0 := by have h9 := c540014; rw [xk_eq, xk_0] at h9; exact h9
            obtain ⟨v540015, ev540015⟩ : ∃ y : Int32, y = y540005 + Int32.ofInt (-1) := ⟨_, rfl⟩
            refine lv_iinc (v := v540015) (lv' := [(3, .int v540015), (4, .ref b540011), (0, .ref (ra (5 * Gp + Gn))), (1, .int ka), (2, .int kb)]) hx hb dX4_nextSeq_45 hl (k := 1) rfl ev540015.symm (by decide) rfl (fun ls hl => ?_)
            refine lv_goto (tgt := 7) hx hb dX4_nextSeq_48 (by decide) ?_
            have tv540015 : v540015.toInt = y540005.toInt - 1 := by rw [ev540015, show y540005 + Int32.ofInt (-1) = y540005 - 1 from xm1 _]; exact (xsub (by rw [xk_1]; omega) (by rw [xk_1]; omega)).trans (by rw [xk_1])
            exact ih540004 _ _ (by omega) (⟨by omega, by omega, by rw [show (v540015.toInt + 1).toNat = y540005.toNatClampNeg by rw [clT]; omega, ← fD_no (zb_le (by omega)) (fun q => ite1_0 hr540012 c540014 ⟨(hbf540011 1 (by decide)).trans (of_decide_eq_true q).1, (hbf540011 2 (by decide)).trans (of_decide_eq_true q).2.1, (hbf540011 3 (by decide)).trans (of_decide_eq_true q).2.2⟩), ← show (y540005.toInt + 1).toNat = y540005.toNatClampNeg + 1 by rw [clT]; omega]; exact hiv540004.2.2⟩) (lv_sub hl [0, 2, 3, 4] rfl)
          · have kc540014 : ¬ (r540012.toInt = 0) := by have h9 := c540014; rw [xk_eq, xk_0] at h9; exact h9
            refine lv_aload hx hb dX4_nextSeq_37 (lv_at hl 0 rfl) ?_
            obtain ⟨j540016, hj540016⟩ := pG_0 (cy := cy) (N := N) (T := T) (I := I) (Q := Q) (J := J) hb540011.1 hb540011.2
            refine va_get (D := (dC, dI)) (ci := 0) (v := .int (I b540011 4)) (C := RX0) (T := TX0) (N := 8) hx hb hts hi0 hown hK hP j540016 hj540016 rfl 4 (by decide) (hts (.fieldLink RX4 60 "TallyLogs$Entry" "seq" "I") (by decide +kernel)) (fun _ h9 => h9) rfl dX4_nextSeq_39 ?_
            refine lv_topi (fun x540017 ex540017 => ?_)
            have sx540017 : x540017 = σ.2.2 (5 * Gp + Gn) y540005.toNatClampNeg 4 := ex540017.trans (hbf540011 4 (by decide))
            refine lv_iconst (v := 1) hx hb dX4_nextSeq_42 (by decide) ?_
            refine lv_iadd hx hb dX4_nextSeq_43 ?_
            refine lv_topi (fun v540018 ev540018 => ?_)
            rw [hQz]
            exact W.iret (v := v540018) hx hb hr (fun t ht hW => ⟨v540018, rfl, by show _ = _; unfold oNq; rw [← hiv540004.2.2, show (y540005.toInt + 1).toNat = y540005.toNatClampNeg + 1 by rw [clT]; omega, fD_yes (zb_le (by omega)) (decide_eq_true ⟨(hbf540011 1 (by decide)).symm.trans (ite1_1 hr540012 c540014).1, (hbf540011 2 (by decide)).symm.trans (ite1_1 hr540012 c540014).2.1, (hbf540011 3 (by decide)).symm.trans (ite1_1 hr540012 c540014).2.2⟩), ev540018, sx540017], ht⟩) (fun _ h => by cases h) dX4_nextSeq_44
  exact hLP540004 _ _ _ (Nat.lt_succ_self _) (⟨by omega, by omega, by rw [show (v540003.toInt + 1).toNat = ze σ (5 * Gp + Gn) by unfold ze; rw [clT]; omega]⟩) (lv_sub hl [0, 1, 2, 3] rfl)
set_option maxHeartbeats 4000000 in
set_option maxRecDepth 100000 in
/-- Partition.replicaAt, exactly -/
theorem g_X2_replicaAt (l : Launch) (dC : Nat → ClassId) (dI : Nat → Nat → Nat) (cy : Nat → ClassId) (v : Nat → Nat) (L : List Nat) (K N : Nat → Nat) (T : Nat → Nat → Nat) (I : Nat → Nat → Int32) (Q : Nat → Nat → Option Nat) (J : Nat → Nat → Int32) (pa ra : Nat → Nat) (kx : Nat → Prop) (σ : SG) (Gp : Nat) (xn : Int32) (hE : REP v pa ra L K N T I Q J kx σ) (hp : Gp < 4) (ht9 : ¬ σ.1 2 Gp = 0) : Met l yX2_replicaAt wsX2_replicaAt ({ frames := 0, cells := 0, slots := 0, locals := 0 }) (va_Pc [.ref (pa Gp), .int xn] (pB dC dI cy L (pF cy K N T I Q J))) (va_Sq (fun r => RAp ra σ Gp xn r)) 0 0 (fun _ => False) := by
  refine Met.ofW (cc := cX2_replicaAt) (maxL := 2) (ret := (some (.object "TallyLogs$Replica"))) (by decide) rfl ?_
  intro p e s m args below meth c s₁ B hml hv
  obtain ⟨rfl, hP, hK, hN⟩ := hv
  have hx := B.exec
  have hb := B.bytes
  have hr := B.returns
  have hts := atoms_spec (ws := wsX2_replicaAt) B.pre
  have hown : s.vm.findClass RX2 = some m.cls := findClass_of_methodNamed B.named
  have hlocks := B.notSynchronized
  have hi2 : ∀ w ∈ wsX20, w ∈ wsX2_replicaAt := by decide +kernel
  have hl := lv_entry ([.ref (pa Gp), .int xn]) (n := 2) (Nat.le_of_ble_eq_true rfl)
  rw [lg_entry_eq]
  generalize (lg_sl ([.ref (pa Gp), .int xn]) ++ List.replicate (2 - (lg_sl ([.ref (pa Gp), .int xn])).length) Slot.unset).toArray = ls at hl ⊢
  have hl : lv_has ls 2 [(0, .ref (pa Gp)), (1, .int xn)] := hl
  have hn28 := hN.1
  have hn30 := hN.2.1
  have hn37 := hN.2.2.1
  have hC := hE.ct
  refine lv_iload_n hx hb dX2_replicaAt_0 rfl (lv_at hl 1 rfl) ?_
  refine lv_if_lt (tgt := 9) hx hb dX2_replicaAt_1 (by decide) (fun c540019 => ?_) (fun c540019 => ?_)
  · have kc540019 : xn.toInt < 0 := by have h9 := c540019; rw [xk_lt, xk_0] at h9; exact h9
    refine lv_null hx hb dX2_replicaAt_9 ?_
    refine lv_goto (tgt := 19) hx hb dX2_replicaAt_10 (by decide) ?_
    exact W.aret (v := .null) hx hb hr (Or.inl ⟨_, rfl⟩) (Or.inl rfl) (fun t ht hW => ⟨none, rfl, Or.inl ⟨rfl, fun n hn y => by exfalso; have y2 := congrArg Int32.toInt y; rw [nI_toInt (by omega)] at y2; omega⟩, ht⟩) (fun _ h => by cases h) dX2_replicaAt_19
  · have kc540019 : ¬ (xn.toInt < 0) := by have h9 := c540019; rw [xk_lt, xk_0] at h9; exact h9
    refine lv_iload_n hx hb dX2_replicaAt_4 rfl (lv_at hl 1 rfl) ?_
    refine lv_iconst (v := 5) hx hb dX2_replicaAt_5 (by decide) ?_
    refine lv_icmp_lt (tgt := 13) hx hb dX2_replicaAt_6 (by decide) (fun c540020 => ?_) (fun c540020 => ?_)
    · have kc540020 : xn.toInt < 5 := by have h9 := c540020; rw [xk_lt, xk_5] at h9; exact h9
      refine lv_aload_n hx hb dX2_replicaAt_13 rfl (lv_at hl 0 rfl) ?_
      obtain ⟨j540021, hj540021⟩ := pG_2 (cy := cy) (N := N) (T := T) (I := I) (Q := Q) (J := J) (hE.pL hp ht9).1 (hE.pL hp ht9).2
      refine va_get (D := (dC, dI)) (ci := 2) (v := .ref (T (pa Gp) 2)) (C := RX2) (T := TX2) (N := 6) hx hb hts hi2 hown hK hP j540021 hj540021 rfl 2 (by decide) (hts (.fieldLink RX2 11 "TallyLogs$Partition" "replicas" "[LTallyLogs$Replica;") (by decide +kernel)) (fun _ h9 => h9) rfl dX2_replicaAt_14 ?_
      obtain ⟨t540022, et540022⟩ : ∃ t, t = T (pa Gp) 2 := ⟨_, rfl⟩
      have hLt540022 : t540022 ∈ L := by rw [et540022]; exact (hC.2.2.2.2.1 (pa Gp) (hE.pL hp ht9).1 (hE.pL hp ht9).2).1
      have hkt540022 : K t540022 = 12 := by rw [et540022]; exact (hC.2.2.2.2.1 (pa Gp) (hE.pL hp ht9).1 (hE.pL hp ht9).2).2
      refine W.eq (g2 := F0 m 17 ls [.ref t540022]) (by rw [et540022]) ?_
      refine lv_iload_n hx hb dX2_replicaAt_17 rfl (lv_at hl 1 rfl) ?_
      have hin540023 : vp_in xn 5 := xin_of (by have kc540019 := c540019; have kc540020 := c540020; simp only [xk_lt, xk_le, xk_0, xk_1, xk_2, xk_3, xk_4, xk_5, xk_6, xk_7, xk_8, xk_50] at kc540019 kc540020; omega) (by have kc540019 := c540019; have kc540020 := c540020; simp only [xk_lt, xk_le, xk_0, xk_1, xk_2, xk_3, xk_4, xk_5, xk_6, xk_7, xk_8, xk_50] at kc540019 kc540020; omega)
      obtain ⟨j540024, hj540024, ej540024⟩ := vp_in_of hin540023 (by decide)
      by_cases hbt540024 : bt (σ.1 3 Gp) j540024
      · have hq540024 : Q t540022 xn.toNatClampNeg = some (ra (5 * Gp + j540024)) := by rw [et540022, ej540024, nI_clamp (by omega)]; exact hE.rq hp hj540024 ⟨ht9, hbt540024⟩
        obtain ⟨j540025, hj540025⟩ := pG_12 (cy := cy) (N := N) (T := T) (I := I) (Q := Q) (J := J) hLt540022 hkt540022
        refine va_aldq hx hb hK hP j540025 5 hj540025 rfl hin540023 dX2_replicaAt_18 ?_
        refine W.eq (g2 := F0 m 19 ls [.ref (ra (5 * Gp + j540024))]) (by rw [hq540024]; rfl) ?_
        exact W.aret (v := .ref (ra (5 * Gp + j540024))) hx hb hr (Or.inl ⟨_, rfl⟩) (Or.inr ⟨_, rfl⟩) (fun t ht hW => ⟨some (ra (5 * Gp + j540024)), rfl, Or.inr ⟨j540024, hj540024, ej540024, ⟨ht9, hbt540024⟩, rfl⟩, ht⟩) (fun _ h => by cases h) dX2_replicaAt_19
      · have hq540024 : Q t540022 xn.toNatClampNeg = none := by rw [et540022, ej540024, nI_clamp (by omega)]; exact hE.rn hp hj540024 ht9 hbt540024
        obtain ⟨j540026, hj540026⟩ := pG_12 (cy := cy) (N := N) (T := T) (I := I) (Q := Q) (J := J) hLt540022 hkt540022
        refine va_aldq hx hb hK hP j540026 5 hj540026 rfl hin540023 dX2_replicaAt_18 ?_
        refine W.eq (g2 := F0 m 19 ls [.null]) (by rw [hq540024]; rfl) ?_
        exact W.aret (v := .null) hx hb hr (Or.inl ⟨_, rfl⟩) (Or.inl rfl) (fun t ht hW => ⟨none, rfl, Or.inl ⟨rfl, fun n hn y hl => hbt540024 (by have y2 := congrArg Int32.toInt (ej540024.symm.trans y); rw [nI_toInt (by omega), nI_toInt (by omega)] at y2; rw [show j540024 = n by omega]; exact hl.2)⟩, ht⟩) (fun _ h => by cases h) dX2_replicaAt_19
    · have kc540020 : ¬ (xn.toInt < 5) := by have h9 := c540020; rw [xk_lt, xk_5] at h9; exact h9
      refine lv_null hx hb dX2_replicaAt_9 ?_
      refine lv_goto (tgt := 19) hx hb dX2_replicaAt_10 (by decide) ?_
      exact W.aret (v := .null) hx hb hr (Or.inl ⟨_, rfl⟩) (Or.inl rfl) (fun t ht hW => ⟨none, rfl, Or.inl ⟨rfl, fun n hn y => by exfalso; have y2 := congrArg Int32.toInt y; rw [nI_toInt (by omega)] at y2; omega⟩, ht⟩) (fun _ h => by cases h) dX2_replicaAt_19
set_option maxHeartbeats 4000000 in
set_option maxRecDepth 100000 in
/-- Partition.leading, exactly -/
theorem g_X2_leading (l : Launch) (dC : Nat → ClassId) (dI : Nat → Nat → Nat) (cy : Nat → ClassId) (v : Nat → Nat) (L : List Nat) (K N : Nat → Nat) (T : Nat → Nat → Nat) (I : Nat → Nat → Int32) (Q : Nat → Nat → Option Nat) (J : Nat → Nat → Int32) (pa ra : Nat → Nat) (kx : Nat → Prop) (σ : SG) (Gp : Nat) (hE : REP v pa ra L K N T I Q J kx σ) (hp : Gp < 4) (ht9 : ¬ σ.1 2 Gp = 0) : Met l yX2_leading wsX2_leading ({ frames := 1, cells := 0, slots := 0, locals := 21 }) (va_Pc [.ref (pa Gp)] (pB dC dI cy L (pF cy K N T I Q J))) (va_Sq (fun r => RAp ra σ Gp (σ.1 4 Gp) r)) 0 0 (fun _ => False) := by
  refine Met.ofW (cc := cX2_leading) (maxL := 1) (ret := (some (.object "TallyLogs$Replica"))) (by decide) rfl ?_
  intro p e s m args below meth c s₁ B hml hv
  obtain ⟨rfl, hP, hK, hN⟩ := hv
  have hx := B.exec
  have hb := B.bytes
  have hr := B.returns
  have hts := atoms_spec (ws := wsX2_leading) B.pre
  have hown : s.vm.findClass RX2 = some m.cls := findClass_of_methodNamed B.named
  have hlocks := B.notSynchronized
  have hi2 : ∀ w ∈ wsX20, w ∈ wsX2_leading := by decide +kernel
  have hl := lv_entry ([.ref (pa Gp)]) (n := 1) (Nat.le_of_ble_eq_true rfl)
  rw [lg_entry_eq]
  generalize (lg_sl ([.ref (pa Gp)]) ++ List.replicate (1 - (lg_sl ([.ref (pa Gp)])).length) Slot.unset).toArray = ls at hl ⊢
  have hl : lv_has ls 1 [(0, .ref (pa Gp))] := hl
  have hn28 := hN.1
  have hn30 := hN.2.1
  have hn37 := hN.2.2.1
  have hC := hE.ct
  refine lv_aload_n hx hb dX2_leading_0 rfl (lv_at hl 0 rfl) ?_
  refine lv_aload_n hx hb dX2_leading_1 rfl (lv_at hl 0 rfl) ?_
  obtain ⟨j540027, hj540027⟩ := pG_2 (cy := cy) (N := N) (T := T) (I := I) (Q := Q) (J := J) (hE.pL hp ht9).1 (hE.pL hp ht9).2
  refine va_get (D := (dC, dI)) (ci := 2) (v := .int (I (pa Gp) 3)) (C := RX2) (T := TX2) (N := 6) hx hb hts hi2 hown hK hP j540027 hj540027 rfl 3 (by decide) (hts (.fieldLink RX2 34 "TallyLogs$Partition" "leader" "I") (by decide +kernel)) (fun _ h9 => h9) rfl dX2_leading_2 ?_
  refine lv_topi (fun x540028 ex540028 => ?_)
  have sx540028 : x540028 = σ.1 4 Gp := ex540028.trans ((hE.pt Gp hp).2 ht9).2.1.2.2.1
  obtain ⟨j540030, hj540030⟩ := pG_2 (cy := cy) (N := N) (T := T) (I := I) (Q := Q) (J := J) (hE.pL hp ht9).1 (hE.pL hp ht9).2
  refine va_csq (W.runV (As := [.int x540028]) (rest := []) ⟨hx, hb, hml, hown, hts⟩ (g_X2_replicaAt l dC dI cy v L K N T I Q J pa ra kx σ Gp x540028 hE hp ht9) (cwV 1 hts gX2_leading_X2_replicaAt rfl rfl rfl (by decide +kernel) ⟨Nat.le_of_ble_eq_true rfl, Nat.le_of_ble_eq_true rfl⟩) ⟨pb_blind, va_recv hK hP (ci := 2) (q0 := j540030) rfl hj540030, fun U hU hW => ⟨rfl, pb_pre hP hK hN hU hW⟩⟩ rfl rfl hl.1 rfl (lv_room (Nat.le_of_ble_eq_true rfl)) dX2_leading_5 ⟨Nat.le_of_ble_eq_true rfl, Nat.le_of_ble_eq_true rfl⟩) (fun r540029 hr540029 => ?_)
  exact W.aret (v := va_rf r540029) hx hb hr (Or.inl ⟨_, rfl⟩) (va_rf_or _) (fun t ht hW => ⟨_, rfl, (by have h9 := hr540029; rw [sx540028] at h9; exact h9), ht⟩) (fun _ h => by cases h) dX2_leading_8
