set_option maxHeartbeats 4000000 in
set_option maxRecDepth 100000 in
/-- partitionAt, exactly -/
theorem e_X5_partitionAt (l : Launch) (dC : Nat → ClassId) (dI : Nat → Nat → Nat) (cy : Nat → ClassId) (v : Nat → Nat) (L : List Nat) (K N : Nat → Nat) (T : Nat → Nat → Nat) (I : Nat → Nat → Int32) (Q : Nat → Nat → Option Nat) (J : Nat → Nat → Int32) (xp : Int32) (hC : CT v L K N T I Q) : Met l yX5_partitionAt wsX5_partitionAt ({ frames := 0, cells := 0, slots := 0, locals := 0 }) (va_Pc [.ref (v 0), .int xp] (pB dC dI cy L (pF cy K N T I Q J))) (va_Sq (fun r => pPa v Q xp r)) 0 0 (fun _ => False) := by
  refine Met.ofW (cc := cX5_partitionAt) (maxL := 2) (ret := (some (.object "TallyLogs$Partition"))) (by decide) rfl ?_
  intro p e s m args below meth c s₁ B hml hv
  obtain ⟨rfl, hP, hK, hN⟩ := hv
  have hx := B.exec
  have hb := B.bytes
  have hr := B.returns
  have hts := atoms_spec (ws := wsX5_partitionAt) B.pre
  have hown : s.vm.findClass RX5 = some m.cls := findClass_of_methodNamed B.named
  have hlocks := B.notSynchronized
  have hi5 : ∀ w ∈ wsX50, w ∈ wsX5_partitionAt := by decide +kernel
  have hl := lv_entry ([.ref (v 0), .int xp]) (n := 2) (Nat.le_of_ble_eq_true rfl)
  rw [lg_entry_eq]
  generalize (lg_sl ([.ref (v 0), .int xp]) ++ List.replicate (2 - (lg_sl ([.ref (v 0), .int xp])).length) Slot.unset).toArray = ls at hl ⊢
  have hl : lv_has ls 2 [(0, .ref (v 0)), (1, .int xp)] := hl
  have hn28 := hN.1
  have hn30 := hN.2.1
  have hn37 := hN.2.2.1
  refine lv_iload_n hx hb dX5_partitionAt_0 rfl (lv_at hl 1 rfl) ?_
  refine lv_if_lt (tgt := 9) hx hb dX5_partitionAt_1 (by decide) (fun c100041 => ?_) (fun c100041 => ?_)
  · refine lv_null hx hb dX5_partitionAt_9 ?_
    refine lv_goto (tgt := 19) hx hb dX5_partitionAt_10 (by decide) ?_
    exact W.aret (v := .null) hx hb hr (Or.inl ⟨_, rfl⟩) (Or.inl rfl) (fun t ht hW => ⟨none, rfl, Or.inl ⟨(by have kc100041 := c100041; simp only [xk_lt, xk_le, xk_0, xk_1, xk_2, xk_3, xk_4, xk_5, xk_6, xk_7, xk_8, xk_50] at kc100041; omega), rfl⟩, ht⟩) (fun _ h => by cases h) dX5_partitionAt_19
  · refine lv_iload_n hx hb dX5_partitionAt_4 rfl (lv_at hl 1 rfl) ?_
    refine lv_iconst (v := 4) hx hb dX5_partitionAt_5 (by decide) ?_
    refine lv_icmp_lt (tgt := 13) hx hb dX5_partitionAt_6 (by decide) (fun c100042 => ?_) (fun c100042 => ?_)
    · refine lv_aload_n hx hb dX5_partitionAt_13 rfl (lv_at hl 0 rfl) ?_
      obtain ⟨j100043, hj100043⟩ := pG_5 (cy := cy) (N := N) (T := T) (I := I) (Q := Q) (J := J) (hC.at 0 (by decide)) (hC.k 0 (by decide) rfl)
      refine va_get (D := (dC, dI)) (ci := 5) (v := .ref (T (v 0) 0)) (C := RX5) (T := TX5) (N := 6) hx hb hts hi5 hown hK hP j100043 hj100043 rfl 0 (by decide) (hts (.fieldLink RX5 11 "TallyLogs" "partitions" "[LTallyLogs$Partition;") (by decide +kernel)) (fun _ h9 => h9) rfl dX5_partitionAt_14 ?_
      refine W.eq (g2 := F0 m 17 ls [.ref (v 1)]) (by rw [hC.1.2.2.1.1]) ?_
      refine lv_iload_n hx hb dX5_partitionAt_17 rfl (lv_at hl 1 rfl) ?_
      have hin100045 : vp_in xp 4 := xin_of (by have kc100041 := c100041; have kc100042 := c100042; simp only [xk_lt, xk_le, xk_0, xk_1, xk_2, xk_3, xk_4, xk_5, xk_6, xk_7, xk_8, xk_50] at kc100041 kc100042; omega) (by have kc100041 := c100041; have kc100042 := c100042; simp only [xk_lt, xk_le, xk_0, xk_1, xk_2, xk_3, xk_4, xk_5, xk_6, xk_7, xk_8, xk_50] at kc100041 kc100042; omega)
      obtain ⟨j100046, hj100046⟩ := pG_10 (cy := cy) (N := N) (T := T) (I := I) (Q := Q) (J := J) (hC.at 1 (by decide)) (hC.k 1 (by decide) rfl)
      refine va_aldq hx hb hK hP j100046 3 hj100046 rfl hin100045 dX5_partitionAt_18 ?_
      cases hq100048 : Q (v 1) xp.toNatClampNeg with
      | none =>
        refine W.eq (g2 := F0 m 19 ls [.null]) rfl ?_
        exact W.aret (v := .null) hx hb hr (Or.inl ⟨_, rfl⟩) (Or.inl rfl) (fun t ht hW => ⟨none, rfl, Or.inr ⟨xp.toNatClampNeg, vp_lt hin100045, xnI hin100045 (by decide), hq100048.symm⟩, ht⟩) (fun _ h => by cases h) dX5_partitionAt_19
      | some b100047 =>
        have hTb100047 := (hC.2.2.2.1 xp.toNatClampNeg b100047 (vp_lt hin100045) hq100048)
        refine W.eq (g2 := F0 m 19 ls [.ref b100047]) rfl ?_
        exact W.aret (v := .ref b100047) hx hb hr (Or.inl ⟨_, rfl⟩) (Or.inr ⟨_, rfl⟩) (fun t ht hW => ⟨some b100047, rfl, Or.inr ⟨xp.toNatClampNeg, vp_lt hin100045, xnI hin100045 (by decide), hq100048.symm⟩, ht⟩) (fun _ h => by cases h) dX5_partitionAt_19
    · refine lv_null hx hb dX5_partitionAt_9 ?_
      refine lv_goto (tgt := 19) hx hb dX5_partitionAt_10 (by decide) ?_
      exact W.aret (v := .null) hx hb hr (Or.inl ⟨_, rfl⟩) (Or.inl rfl) (fun t ht hW => ⟨none, rfl, Or.inl ⟨(by have kc100041 := c100041; have kc100042 := c100042; simp only [xk_lt, xk_le, xk_0, xk_1, xk_2, xk_3, xk_4, xk_5, xk_6, xk_7, xk_8, xk_50] at kc100041 kc100042; omega), rfl⟩, ht⟩) (fun _ h => by cases h) dX5_partitionAt_19
set_option maxHeartbeats 4000000 in
set_option maxRecDepth 100000 in
/-- placeOf, exactly -/
theorem e_X5_placeOf (l : Launch) (dC : Nat → ClassId) (dI : Nat → Nat → Nat) (cy : Nat → ClassId) (v : Nat → Nat) (L : List Nat) (K N : Nat → Nat) (T : Nat → Nat → Nat) (I : Nat → Nat → Int32) (Q : Nat → Nat → Option Nat) (J : Nat → Nat → Int32) (xp : Int32) (pj : Nat) (hC : CT v L K N T I Q) (hpj : pj < 4) (hxp : xp = nI pj) : Met l yX5_placeOf wsX5_placeOf ({ frames := 0, cells := 0, slots := 0, locals := 0 }) (va_Pc [.ref (v 0), .int xp] (pB dC dI cy L (pF cy K N T I Q J))) (vp_Si (fun r => r = sp_cnt (fun q => oN (Q (v 1) q)) pj)) 0 0 (fun _ => False) := by
  refine Met.ofW (cc := cX5_placeOf) (maxL := 4) (ret := (some .int)) (by decide) rfl ?_
  intro p e s m args below meth c s₁ B hml hv
  obtain ⟨rfl, hP, hK, hN⟩ := hv
  have hx := B.exec
  have hb := B.bytes
  have hr := B.returns
  have hts := atoms_spec (ws := wsX5_placeOf) B.pre
  have hown : s.vm.findClass RX5 = some m.cls := findClass_of_methodNamed B.named
  have hlocks := B.notSynchronized
  have hi5 : ∀ w ∈ wsX50, w ∈ wsX5_placeOf := by decide +kernel
  have hl := lv_entry ([.ref (v 0), .int xp]) (n := 4) (Nat.le_of_ble_eq_true rfl)
  rw [lg_entry_eq]
  generalize (lg_sl ([.ref (v 0), .int xp]) ++ List.replicate (4 - (lg_sl ([.ref (v 0), .int xp])).length) Slot.unset).toArray = ls at hl ⊢
  have hl : lv_has ls 4 [(0, .ref (v 0)), (1, .int xp)] := hl
  have hn28 := hN.1
  have hn30 := hN.2.1
  have hn37 := hN.2.2.1
  refine lv_iconst (v := 0) hx hb dX5_placeOf_0 (by decide) ?_
  refine lv_istore_n (lv' := [(2, .int 0), (0, .ref (v 0)), (1, .int xp)]) hx hb dX5_placeOf_1 rfl hl (by decide) rfl (fun ls hl => ?_)
  refine lv_iconst (v := 0) hx hb dX5_placeOf_2 (by decide) ?_
  refine lv_istore_n (lv' := [(3, .int 0), (2, .int 0), (0, .ref (v 0)), (1, .int xp)]) hx hb dX5_placeOf_3 rfl hl (by decide) rfl (fun ls hl => ?_)
  refine wq_gen (fun Qz hQz => ?_)
  have hLP : ∀ (n k : Nat) (ls : Array Slot), pj - k < n → k ≤ pj → lv_has ls 4 [(3, .int (nI k)), (2, .int (sp_cnt (fun q => oN (Q (v 1) q)) k)), (1, .int xp), (0, .ref (v 0))] → W p l e (headSpec wsX5_placeOf ({ frames := 0, cells := 0, slots := 0, locals := 0 })).room s m ([.ref (v 0), .int xp] : List Value).toArray below meth c s.heap [] 0 0 Qz (F0 m 4 ls []) := by
    intro n
    induction n with
    | zero => intro k ls hms; exact absurd hms (Nat.not_lt_zero _)
    | succ n ih =>
      intro k ls hms hkb hl
      refine lv_iload_n hx hb dX5_placeOf_4 rfl (lv_at hl 0 rfl) ?_
      refine lv_iconst (v := 4) hx hb dX5_placeOf_5 (by decide) ?_
      refine lv_icmp_ge (tgt := 37) hx hb dX5_placeOf_6 (by decide) (fun c100049 => ?_) (fun c100049 => ?_)
      · exact absurd c100049 (nI_ge (b := 4) (by omega) (by decide))
      refine lv_iload_n hx hb dX5_placeOf_9 rfl (lv_at hl 0 rfl) ?_
      refine lv_iload_n hx hb dX5_placeOf_10 rfl (lv_at hl 2 rfl) ?_
      refine lv_icmp_ge (tgt := 37) hx hb dX5_placeOf_11 (by decide) (fun c100050 => ?_) (fun c100050 => ?_)
      · refine lv_iload_n hx hb dX5_placeOf_37 rfl (lv_at hl 1 rfl) ?_
        rw [hQz]
        exact W.iret (v := (sp_cnt (fun q => oN (Q (v 1) q)) k)) hx hb hr (fun t ht hW => ⟨(sp_cnt (fun q => oN (Q (v 1) q)) k), rfl, by show _ = _; have k9 := c100050; rw [hxp, nI_leI (by omega) (by omega)] at k9; rw [show k = pj by omega], ht⟩) (fun _ h => by cases h) dX5_placeOf_38
      · refine lv_iload_n hx hb dX5_placeOf_14 rfl (lv_at hl 1 rfl) ?_
        refine lv_aload_n hx hb dX5_placeOf_15 rfl (lv_at hl 3 rfl) ?_
        obtain ⟨j100051, hj100051⟩ := pG_5 (cy := cy) (N := N) (T := T) (I := I) (Q := Q) (J := J) (hC.at 0 (by decide)) (hC.k 0 (by decide) rfl)
        refine va_get (D := (dC, dI)) (ci := 5) (v := .ref (T (v 0) 0)) (C := RX5) (T := TX5) (N := 6) hx hb hts hi5 hown hK hP j100051 hj100051 rfl 0 (by decide) (hts (.fieldLink RX5 11 "TallyLogs" "partitions" "[LTallyLogs$Partition;") (by decide +kernel)) (fun _ h9 => h9) rfl dX5_placeOf_16 ?_
        refine W.eq (g2 := F0 m 19 ls [.ref (v 1), .int (sp_cnt (fun q => oN (Q (v 1) q)) k)]) (by rw [hC.1.2.2.1.1]) ?_
        refine lv_iload_n hx hb dX5_placeOf_19 rfl (lv_at hl 0 rfl) ?_
        obtain ⟨j100053, hj100053⟩ := pG_10 (cy := cy) (N := N) (T := T) (I := I) (Q := Q) (J := J) (hC.at 1 (by decide)) (hC.k 1 (by decide) rfl)
        refine va_aldq hx hb hK hP j100053 3 hj100053 rfl (nI_in (by omega) (by decide)) dX5_placeOf_20 ?_
        cases hq100055 : Q (v 1) (nI k).toNatClampNeg with
        | none =>
          refine W.eq (g2 := F0 m 21 ls [.null, .int (sp_cnt (fun q => oN (Q (v 1) q)) k)]) rfl ?_
          refine lv_ifnonnullN hx hb dX5_placeOf_21 ?_
          refine lv_iconst (v := 0) hx hb dX5_placeOf_24 (by decide) ?_
          refine lv_goto (tgt := 29) hx hb dX5_placeOf_25 (by decide) ?_
          refine lv_iadd hx hb dX5_placeOf_29 ?_
          refine lv_topi (fun v100056 ev100056 => ?_)
          refine lv_istore_n (lv' := [(2, .int v100056), (3, .int (nI k)), (1, .int xp), (0, .ref (v 0))]) hx hb dX5_placeOf_30 rfl hl (by decide) rfl (fun ls hl => ?_)
          obtain ⟨v100057, ev100057⟩ : ∃ y : Int32, y = (nI k) + Int32.ofInt 1 := ⟨_, rfl⟩
          refine lv_iinc (v := v100057) (lv' := [(3, .int v100057), (2, .int v100056), (1, .int xp), (0, .ref (v 0))]) hx hb dX5_placeOf_31 hl (k := 1) rfl ev100057.symm (by decide) rfl (fun ls hl => ?_)
          refine lv_goto (tgt := 4) hx hb dX5_placeOf_34 (by decide) ?_
          have hlt : k < pj := by have k9 := c100050; rw [hxp, nI_leI (by omega) (by omega)] at k9; omega
          obtain rfl : v100057 = nI (k + 1) := ev100057.trans (nI_add k 1)
          rw [nI_clamp (by omega)] at hq100055
          obtain rfl : v100056 = sp_cnt (fun q => oN (Q (v 1) q)) (k + 1) := by rw [ev100056]; show _ = sp_cnt _ k + oN (Q (v 1) k); rw [hq100055]; rfl
          exact ih (k + 1) _ (by omega) (by omega) (lv_sub hl [0, 1, 2, 3] rfl)
        | some b100054 =>
          have hTb100054 := (hC.2.2.2.1 (nI k).toNatClampNeg b100054 (vp_lt (nI_in (by omega) (by decide))) hq100055)
          refine W.eq (g2 := F0 m 21 ls [.ref b100054, .int (sp_cnt (fun q => oN (Q (v 1) q)) k)]) rfl ?_
          refine lv_ifnonnull (tgt := 28) hx hb dX5_placeOf_21 (by decide) ?_
          refine lv_iconst (v := 1) hx hb dX5_placeOf_28 (by decide) ?_
          refine lv_iadd hx hb dX5_placeOf_29 ?_
          refine lv_topi (fun v100058 ev100058 => ?_)
          refine lv_istore_n (lv' := [(2, .int v100058), (3, .int (nI k)), (1, .int xp), (0, .ref (v 0))]) hx hb dX5_placeOf_30 rfl hl (by decide) rfl (fun ls hl => ?_)
          obtain ⟨v100059, ev100059⟩ : ∃ y : Int32, y = (nI k) + Int32.ofInt 1 := ⟨_, rfl⟩
          refine lv_iinc (v := v100059) (lv' := [(3, .int v100059), (2, .int v100058), (1, .int xp), (0, .ref (v 0))]) hx hb dX5_placeOf_31 hl (k := 1) rfl ev100059.symm (by decide) rfl (fun ls hl => ?_)
          refine lv_goto (tgt := 4) hx hb dX5_placeOf_34 (by decide) ?_
          have hlt : k < pj := by have k9 := c100050; rw [hxp, nI_leI (by omega) (by omega)] at k9; omega
          obtain rfl : v100059 = nI (k + 1) := ev100059.trans (nI_add k 1)
          rw [nI_clamp (by omega)] at hq100055
          obtain rfl : v100058 = sp_cnt (fun q => oN (Q (v 1) q)) (k + 1) := by rw [ev100058]; show _ = sp_cnt _ k + oN (Q (v 1) k); rw [hq100055]; rfl
          exact ih (k + 1) _ (by omega) (by omega) (lv_sub hl [0, 1, 2, 3] rfl)
  exact hLP _ 0 _ (Nat.lt_succ_self _) (Nat.zero_le _) (lv_sub hl [0, 1, 3, 2] rfl)
set_option maxHeartbeats 4000000 in
set_option maxRecDepth 100000 in
/-- Group.memberAt, exactly -/
theorem e_X1_memberAt (l : Launch) (dC : Nat → ClassId) (dI : Nat → Nat → Nat) (cy : Nat → ClassId) (v : Nat → Nat) (L : List Nat) (K N : Nat → Nat) (T : Nat → Nat → Nat) (I : Nat → Nat → Int32) (Q : Nat → Nat → Option Nat) (J : Nat → Nat → Int32) (a : Nat) (xq : Int32) (hC : CT v L K N T I Q) (ha : a ∈ L) (hk : K a = 1) : Met l yX1_memberAt wsX1_memberAt ({ frames := 1, cells := 0, slots := 0, locals := 21 }) (va_Pc [.ref a, .int xq] (pB dC dI cy L (pF cy K N T I Q J))) (vp_Si (fun r => r = sp_ma (I a 0) xq)) 0 0 (fun _ => False) := by
  refine Met.ofW (cc := cX1_memberAt) (maxL := 5) (ret := (some .int)) (by decide) rfl ?_
  intro p e s m args below meth c s₁ B hml hv
  obtain ⟨rfl, hP, hK, hN⟩ := hv
  have hx := B.exec
  have hb := B.bytes
  have hr := B.returns
  have hts := atoms_spec (ws := wsX1_memberAt) B.pre
  have hown : s.vm.findClass RX1 = some m.cls := findClass_of_methodNamed B.named
  have hlocks := B.notSynchronized
  have hi1 : ∀ w ∈ wsX10, w ∈ wsX1_memberAt := by decide +kernel
  have hl := lv_entry ([.ref a, .int xq]) (n := 5) (Nat.le_of_ble_eq_true rfl)
  rw [lg_entry_eq]
  generalize (lg_sl ([.ref a, .int xq]) ++ List.replicate (5 - (lg_sl ([.ref a, .int xq])).length) Slot.unset).toArray = ls at hl ⊢
  have hl : lv_has ls 5 [(0, .ref a), (1, .int xq)] := hl
  have hn28 := hN.1
  have hn30 := hN.2.1
  have hn37 := hN.2.2.1
  refine lv_aload_n hx hb dX1_memberAt_0 rfl (lv_at hl 0 rfl) ?_
  obtain ⟨j100060, hj100060⟩ := pG_1 (cy := cy) (N := N) (T := T) (I := I) (Q := Q) (J := J) ha hk
  refine va_get (D := (dC, dI)) (ci := 1) (v := .int (I a 0)) (C := RX1) (T := TX1) (N := 3) hx hb hts hi1 hown hK hP j100060 hj100060 rfl 0 (by decide) (hts (.fieldLink RX1 9 "TallyLogs$Group" "members" "I") (by decide +kernel)) (fun _ h9 => h9) rfl dX1_memberAt_1 ?_
  refine lv_topi (fun x100061 ex100061 => ?_)
  refine vp_callSi (W.runS (As := [.int x100061]) (rest := []) ⟨hx, hb, hml, hown, hts⟩ (c_J6_bitCount_0f7a4 l x100061) (va_cwS 1 hts gX1_memberAt_J6_bitCount_0f7a4 rfl rfl rfl (by decide +kernel) ⟨Nat.le_of_ble_eq_true rfl, Nat.le_of_ble_eq_true rfl⟩) preEq rfl rfl hl.1 rfl (lv_room (Nat.le_of_ble_eq_true rfl)) dX1_memberAt_4 ⟨Nat.le_of_ble_eq_true rfl, Nat.le_of_ble_eq_true rfl⟩) (fun r100062 hr100062 => ?_)
  refine lv_istore_n (lv' := [(2, .int r100062), (0, .ref a), (1, .int xq)]) hx hb dX1_memberAt_7 rfl hl (by decide) rfl (fun ls hl => ?_)
  refine lv_iload_n hx hb dX1_memberAt_8 rfl (lv_at hl 0 rfl) ?_
  refine lv_if_ne (tgt := 14) hx hb dX1_memberAt_9 (by decide) (fun c100063 => ?_) (fun c100063 => ?_)
  · refine lv_iload_n hx hb dX1_memberAt_14 rfl (lv_at hl 2 rfl) ?_
    refine lv_iload_n hx hb dX1_memberAt_15 rfl (lv_at hl 0 rfl) ?_
    refine lv_irem hx hb dX1_memberAt_16 c100063 ?_
    refine lv_topi (fun v100064 ev100064 => ?_)
    refine lv_istore_n (lv' := [(3, .int v100064), (2, .int r100062), (0, .ref a), (1, .int xq)]) hx hb dX1_memberAt_17 rfl hl (by decide) rfl (fun ls hl => ?_)
    refine lv_iconst (v := 0) hx hb dX1_memberAt_18 (by decide) ?_
    refine lv_istore (lv' := [(4, .int 0), (3, .int v100064), (2, .int r100062), (0, .ref a), (1, .int xq)]) hx hb dX1_memberAt_19 hl (by decide) rfl (fun ls hl => ?_)
    refine wq_gen (fun Qz hQz => ?_)
    have hLP : ∀ (n k : Nat) (yv : Int32) (ls : Array Slot), k + n = 8 → sp_ml (I a 0) n k yv = sp_ma (I a 0) xq → lv_has ls 5 [(4, .int (nI k)), (3, .int yv), (2, .int r100062), (1, .int xq), (0, .ref a)] → W p l e (headSpec wsX1_memberAt ({ frames := 1, cells := 0, slots := 0, locals := 21 })).room s m ([.ref a, .int xq] : List Value).toArray below meth c s.heap [] 0 0 Qz (F0 m 21 ls []) := by
      intro n
      induction n with
      | zero =>
        intro k yv ls hkn hR hl
        obtain rfl : k = 8 := by omega
        refine lv_iload hx hb dX1_memberAt_21 (lv_at hl 0 rfl) ?_
        refine lv_bipush (v := 8) hx hb dX1_memberAt_23 (by decide) ?_
        refine lv_icmp_ge (tgt := 59) hx hb dX1_memberAt_25 (by decide) (fun c100065 => ?_) (fun c100065 => ?_)
        rotate_left
        · exact absurd (by decide) c100065
        refine lv_iconst (v := (-1)) hx hb dX1_memberAt_59 (by decide) ?_
        rw [hQz]
        exact W.iret (v := (-1)) hx hb hr (fun t ht hW => ⟨(-1), rfl, by show _ = _; rw [← hR]; rfl, ht⟩) (fun _ h => by cases h) dX1_memberAt_60
      | succ n ih =>
        intro k yv ls hkn hR hl
        refine lv_iload hx hb dX1_memberAt_21 (lv_at hl 0 rfl) ?_
        refine lv_bipush (v := 8) hx hb dX1_memberAt_23 (by decide) ?_
        refine lv_icmp_ge (tgt := 59) hx hb dX1_memberAt_25 (by decide) (fun c100066 => ?_) (fun c100066 => ?_)
        · exact absurd c100066 (nI_ge (b := 8) (by omega) (by decide))
        refine lv_aload_n hx hb dX1_memberAt_28 rfl (lv_at hl 4 rfl) ?_
        obtain ⟨j100067, hj100067⟩ := pG_1 (cy := cy) (N := N) (T := T) (I := I) (Q := Q) (J := J) ha hk
        refine va_get (D := (dC, dI)) (ci := 1) (v := .int (I a 0)) (C := RX1) (T := TX1) (N := 3) hx hb hts hi1 hown hK hP j100067 hj100067 rfl 0 (by decide) (hts (.fieldLink RX1 9 "TallyLogs$Group" "members" "I") (by decide +kernel)) (fun _ h9 => h9) rfl dX1_memberAt_29 ?_
        refine lv_topi (fun x100068 ex100068 => ?_)
        refine lv_iload hx hb dX1_memberAt_32 (lv_at hl 0 rfl) ?_
        refine vp_callSi (va_Run.run (va_runSN (As := [.int x100068, .int (nI k)]) (rest := []) ⟨hx, hb, hml, hown, hts⟩ (c_X5_contains l x100068 (nI k)) ⟨va_cnB 2 hts gX1_memberAt_X5_contains_n28 rfl rfl rfl hn28 (hts (.initialized RX5) (by decide +kernel)) (by decide +kernel) ⟨Nat.le_of_ble_eq_true rfl, Nat.le_of_ble_eq_true rfl⟩, hts (.static yX5_contains) (by decide +kernel), trivial⟩ preEq rfl rfl hl.1 rfl (lv_room (Nat.le_of_ble_eq_true rfl)) dX1_memberAt_34 ⟨Nat.le_of_ble_eq_true rfl, Nat.le_of_ble_eq_true rfl⟩)) (fun r100069 hr100069 => ?_)
        refine lv_if_ne (tgt := 43) hx hb dX1_memberAt_37 (by decide) (fun c100070 => ?_) (fun c100070 => ?_)
        · refine lv_iload_n hx hb dX1_memberAt_43 rfl (lv_at hl 1 rfl) ?_
          refine lv_if_ne (tgt := 50) hx hb dX1_memberAt_44 (by decide) (fun c100071 => ?_) (fun c100071 => ?_)
          · obtain ⟨v100072, ev100072⟩ : ∃ y : Int32, y = yv + Int32.ofInt (-1) := ⟨_, rfl⟩
            refine lv_iinc (v := v100072) (lv' := [(3, .int v100072), (4, .int (nI k)), (2, .int r100062), (1, .int xq), (0, .ref a)]) hx hb dX1_memberAt_50 hl (k := 1) rfl ev100072.symm (by decide) rfl (fun ls hl => ?_)
            obtain ⟨v100073, ev100073⟩ : ∃ y : Int32, y = (nI k) + Int32.ofInt 1 := ⟨_, rfl⟩
            refine lv_iinc (v := v100073) (lv' := [(4, .int v100073), (3, .int v100072), (2, .int r100062), (1, .int xq), (0, .ref a)]) hx hb dX1_memberAt_53 hl (k := 1) rfl ev100073.symm (by decide) rfl (fun ls hl => ?_)
            refine lv_goto (tgt := 21) hx hb dX1_memberAt_56 (by decide) ?_
            obtain rfl : v100073 = nI (k + 1) := ev100073.trans (nI_add k 1)
            exact ih (k + 1) v100072 _ (by omega) (by rw [← hR, ev100072, xm1]; exact (sp_ml_2 (sp_cn8_1 (by omega) (fun q => c100070 (by rw [hr100069, ex100068]; exact q))) c100071).symm) (lv_sub hl [0, 1, 2, 3, 4] rfl)
          · refine lv_iload hx hb dX1_memberAt_47 (lv_at hl 0 rfl) ?_
            rw [hQz]
            exact W.iret (v := (nI k)) hx hb hr (fun t ht hW => ⟨(nI k), rfl, by show _ = _; rw [← hR]; exact (sp_ml_1 (sp_cn8_1 (by omega) (fun q => c100070 (by rw [hr100069, ex100068]; exact q))) c100071).symm, ht⟩) (fun _ h => by cases h) dX1_memberAt_49
        · refine lv_goto (tgt := 53) hx hb dX1_memberAt_40 (by decide) ?_
          obtain ⟨v100074, ev100074⟩ : ∃ y : Int32, y = (nI k) + Int32.ofInt 1 := ⟨_, rfl⟩
          refine lv_iinc (v := v100074) (lv' := [(4, .int v100074), (3, .int yv), (2, .int r100062), (1, .int xq), (0, .ref a)]) hx hb dX1_memberAt_53 hl (k := 0) rfl ev100074.symm (by decide) rfl (fun ls hl => ?_)
          refine lv_goto (tgt := 21) hx hb dX1_memberAt_56 (by decide) ?_
          obtain rfl : v100074 = nI (k + 1) := ev100074.trans (nI_add k 1)
          exact ih (k + 1) yv _ (by omega) (by rw [← hR]; exact (sp_ml_3 (sp_cn8_0 (by omega) (by rw [← ex100068, ← hr100069]; exact c100070))).symm) (lv_sub hl [0, 1, 2, 3, 4] rfl)
    exact hLP 8 0 _ _ rfl (by rw [sp_ma, if_neg (fun q => c100063 (by rw [hr100062, ex100061]; exact q)), ev100064, hr100062, ex100061]) (lv_sub hl [0, 1, 2, 4, 3] rfl)
  · refine lv_iconst (v := (-1)) hx hb dX1_memberAt_12 (by decide) ?_
    exact W.iret (v := (-1)) hx hb hr (fun t ht hW => ⟨(-1), rfl, by show _ = _; rw [sp_ma, if_pos (by rw [← ex100061, ← hr100062]; exact c100063)], ht⟩) (fun _ h => by cases h) dX1_memberAt_13
