set_option maxHeartbeats 4000000 in
set_option maxRecDepth 100000 in
/-- Math.floorMod(x, 60) -/
theorem c_J9_floorMod_7cf53 (l : Launch) (ix : Int32) : Met l yJ9_floorMod_7cf53 wsJ9_floorMod_7cf53 ({ frames := 0, cells := 0, slots := 0, locals := 0 }) (fun v _ => v = ([.int ix, .int 60] : List Value).toArray) (vp_Si (fun r => r = sp_fm ix)) 0 0 (fun _ => False) := by
  refine va_MetF (cc := cJ9_floorMod_7cf53) (maxL := 3) (ret := (some .int)) (by decide +kernel) rfl ?_
  intro p e s m args below meth c s₁ B hml hv
  subst hv
  have hx := B.exec
  have hb := B.bytes
  have hr := B.returns
  have hts := atoms_spec (ws := wsJ9_floorMod_7cf53) B.pre
  have hown : s.vm.findClass RJ9 = some m.cls := findClass_of_methodNamed B.named
  have hlocks := B.notSynchronized
  have hl := lv_entry ([.int ix, .int 60]) (n := 3) (Nat.le_of_ble_eq_true rfl)
  rw [lg_entry_eq]
  generalize (lg_sl ([.int ix, .int 60]) ++ List.replicate (3 - (lg_sl ([.int ix, .int 60])).length) Slot.unset).toArray = ls at hl ⊢
  have hl : lv_has ls 3 [(0, .int ix), (1, .int 60)] := hl
  refine lv_iload_n hx hb dJ9_floorMod_7cf53_0 rfl (lv_at hl 0 rfl) ?_
  refine lv_iload_n hx hb dJ9_floorMod_7cf53_1 rfl (lv_at hl 1 rfl) ?_
  refine lv_irem hx hb dJ9_floorMod_7cf53_2 (by decide) ?_
  refine lv_topi (fun v1 ev1 => ?_)
  refine lv_istore_n (lv' := [(2, .int v1), (0, .int ix), (1, .int 60)]) hx hb dJ9_floorMod_7cf53_3 rfl hl (by decide) rfl (fun ls hl => ?_)
  refine lv_iload_n hx hb dJ9_floorMod_7cf53_4 rfl (lv_at hl 1 rfl) ?_
  refine lv_iload_n hx hb dJ9_floorMod_7cf53_5 rfl (lv_at hl 2 rfl) ?_
  refine lv_ixor hx hb dJ9_floorMod_7cf53_6 ?_
  refine lv_topi (fun v2 ev2 => ?_)
  refine lv_if_ge (tgt := 18) hx hb dJ9_floorMod_7cf53_7 (by decide) (fun c3 => ?_) (fun c3 => ?_)
  · refine lv_iload_n hx hb dJ9_floorMod_7cf53_18 rfl (lv_at hl 0 rfl) ?_
    exact W.iret (v := v1) hx hb hr (fun t ht hW => ⟨v1, rfl, by subst ev1; subst ev2; rw [sp_fm, if_pos c3], ht⟩) (fun _ h => by cases h) dJ9_floorMod_7cf53_19
  · refine lv_iload_n hx hb dJ9_floorMod_7cf53_10 rfl (lv_at hl 0 rfl) ?_
    refine lv_if_eq (tgt := 18) hx hb dJ9_floorMod_7cf53_11 (by decide) (fun c4 => ?_) (fun c4 => ?_)
    · refine lv_iload_n hx hb dJ9_floorMod_7cf53_18 rfl (lv_at hl 0 rfl) ?_
      exact W.iret (v := v1) hx hb hr (fun t ht hW => ⟨v1, rfl, by subst ev1; subst ev2; rw [sp_fm, if_neg c3, if_pos c4], ht⟩) (fun _ h => by cases h) dJ9_floorMod_7cf53_19
    · refine lv_iload_n hx hb dJ9_floorMod_7cf53_14 rfl (lv_at hl 0 rfl) ?_
      refine lv_iload_n hx hb dJ9_floorMod_7cf53_15 rfl (lv_at hl 2 rfl) ?_
      refine lv_iadd hx hb dJ9_floorMod_7cf53_16 ?_
      refine lv_topi (fun v5 ev5 => ?_)
      exact W.iret (v := v5) hx hb hr (fun t ht hW => ⟨v5, rfl, by subst ev1; subst ev2; subst ev5; rw [sp_fm, if_neg c3, if_neg c4], ht⟩) (fun _ h => by cases h) dJ9_floorMod_7cf53_17
set_option maxHeartbeats 4000000 in
set_option maxRecDepth 100000 in
/-- Entry.isEndOf -/
theorem c_X0_isEndOf (l : Launch) (dC : Nat → ClassId) (dI : Nat → Nat → Nat) (cy : Nat → ClassId) (v : Nat → Nat) (L : List Nat) (K N : Nat → Nat) (T : Nat → Nat → Nat) (I : Nat → Nat → Int32) (Q : Nat → Nat → Option Nat) (J : Nat → Nat → Int32) (a : Nat) (eb : Nat) (hC : CT v L K N T I Q) (ha : a ∈ L) (hk : K a = 0) (hb0 : eb ∈ L) (hkb : K eb = 0) : Met l yX0_isEndOf wsX0_isEndOf ({ frames := 0, cells := 0, slots := 0, locals := 0 }) (va_Pc [.ref a, .ref eb] (pB dC dI cy L (pF cy K N T I Q J))) (vp_Si (fun r => True)) 0 0 (fun _ => False) := by
  refine Met.ofW (cc := cX0_isEndOf) (maxL := 2) (ret := (some .boolean)) (by decide) rfl ?_
  intro p e s m args below meth c s₁ B hml hv
  obtain ⟨rfl, hP, hK, hN⟩ := hv
  have hx := B.exec
  have hb := B.bytes
  have hr := B.returns
  have hts := atoms_spec (ws := wsX0_isEndOf) B.pre
  have hown : s.vm.findClass RX0 = some m.cls := findClass_of_methodNamed B.named
  have hlocks := B.notSynchronized
  have hi0 : ∀ w ∈ wsX00, w ∈ wsX0_isEndOf := by decide +kernel
  have hl := lv_entry ([.ref a, .ref eb]) (n := 2) (Nat.le_of_ble_eq_true rfl)
  rw [lg_entry_eq]
  generalize (lg_sl ([.ref a, .ref eb]) ++ List.replicate (2 - (lg_sl ([.ref a, .ref eb])).length) Slot.unset).toArray = ls at hl ⊢
  have hl : lv_has ls 2 [(0, .ref a), (1, .ref eb)] := hl
  have hn28 := hN.1
  have hn30 := hN.2.1
  have hn37 := hN.2.2.1
  refine lv_aload_n hx hb dX0_isEndOf_0 rfl (lv_at hl 0 rfl) ?_
  obtain ⟨j15, hj15⟩ := pG_0 (cy := cy) (N := N) (T := T) (I := I) (Q := Q) (J := J) ha hk
  refine va_get (D := (dC, dI)) (ci := 0) (v := .int (I a 1)) (C := RX0) (T := TX0) (N := 8) hx hb hts hi0 hown hK hP j15 hj15 rfl 1 (by decide) (hts (.fieldLink RX0 15 "TallyLogs$Entry" "kind" "I") (by decide +kernel)) (fun _ h9 => h9) rfl dX0_isEndOf_1 ?_
  refine lv_topi (fun x16 ex16 => ?_)
  refine lv_if_eq (tgt := 33) hx hb dX0_isEndOf_4 (by decide) (fun c17 => ?_) (fun c17 => ?_)
  · refine lv_iconst (v := 0) hx hb dX0_isEndOf_33 (by decide) ?_
    exact W.zret (v := 0) hx hb hr (by decide) (fun t ht hW => ⟨0, rfl, trivial, ht⟩) (fun _ h => by cases h) dX0_isEndOf_34
  · refine lv_aload_n hx hb dX0_isEndOf_7 rfl (lv_at hl 0 rfl) ?_
    obtain ⟨j18, hj18⟩ := pG_0 (cy := cy) (N := N) (T := T) (I := I) (Q := Q) (J := J) ha hk
    refine va_get (D := (dC, dI)) (ci := 0) (v := .int (I a 2)) (C := RX0) (T := TX0) (N := 8) hx hb hts hi0 hown hK hP j18 hj18 rfl 2 (by decide) (hts (.fieldLink RX0 18 "TallyLogs$Entry" "producer" "I") (by decide +kernel)) (fun _ h9 => h9) rfl dX0_isEndOf_8 ?_
    refine lv_topi (fun x19 ex19 => ?_)
    refine lv_aload_n hx hb dX0_isEndOf_11 rfl (lv_at hl 1 rfl) ?_
    obtain ⟨j20, hj20⟩ := pG_0 (cy := cy) (N := N) (T := T) (I := I) (Q := Q) (J := J) hb0 hkb
    refine va_get (D := (dC, dI)) (ci := 0) (v := .int (I eb 2)) (C := RX0) (T := TX0) (N := 8) hx hb hts hi0 hown hK hP j20 hj20 rfl 2 (by decide) (hts (.fieldLink RX0 18 "TallyLogs$Entry" "producer" "I") (by decide +kernel)) (fun _ h9 => h9) rfl dX0_isEndOf_12 ?_
    refine lv_topi (fun x21 ex21 => ?_)
    refine lv_icmp_ne (tgt := 33) hx hb dX0_isEndOf_15 (by decide) (fun c22 => ?_) (fun c22 => ?_)
    · refine lv_iconst (v := 0) hx hb dX0_isEndOf_33 (by decide) ?_
      exact W.zret (v := 0) hx hb hr (by decide) (fun t ht hW => ⟨0, rfl, trivial, ht⟩) (fun _ h => by cases h) dX0_isEndOf_34
    · refine lv_aload_n hx hb dX0_isEndOf_18 rfl (lv_at hl 0 rfl) ?_
      obtain ⟨j23, hj23⟩ := pG_0 (cy := cy) (N := N) (T := T) (I := I) (Q := Q) (J := J) ha hk
      refine va_get (D := (dC, dI)) (ci := 0) (v := .int (I a 3)) (C := RX0) (T := TX0) (N := 8) hx hb hts hi0 hown hK hP j23 hj23 rfl 3 (by decide) (hts (.fieldLink RX0 21 "TallyLogs$Entry" "generation" "I") (by decide +kernel)) (fun _ h9 => h9) rfl dX0_isEndOf_19 ?_
      refine lv_topi (fun x24 ex24 => ?_)
      refine lv_aload_n hx hb dX0_isEndOf_22 rfl (lv_at hl 1 rfl) ?_
      obtain ⟨j25, hj25⟩ := pG_0 (cy := cy) (N := N) (T := T) (I := I) (Q := Q) (J := J) hb0 hkb
      refine va_get (D := (dC, dI)) (ci := 0) (v := .int (I eb 3)) (C := RX0) (T := TX0) (N := 8) hx hb hts hi0 hown hK hP j25 hj25 rfl 3 (by decide) (hts (.fieldLink RX0 21 "TallyLogs$Entry" "generation" "I") (by decide +kernel)) (fun _ h9 => h9) rfl dX0_isEndOf_23 ?_
      refine lv_topi (fun x26 ex26 => ?_)
      refine lv_icmp_ne (tgt := 33) hx hb dX0_isEndOf_26 (by decide) (fun c27 => ?_) (fun c27 => ?_)
      · refine lv_iconst (v := 0) hx hb dX0_isEndOf_33 (by decide) ?_
        exact W.zret (v := 0) hx hb hr (by decide) (fun t ht hW => ⟨0, rfl, trivial, ht⟩) (fun _ h => by cases h) dX0_isEndOf_34
      · refine lv_iconst (v := 1) hx hb dX0_isEndOf_29 (by decide) ?_
        refine lv_goto (tgt := 34) hx hb dX0_isEndOf_30 (by decide) ?_
        exact W.zret (v := 1) hx hb hr (by decide) (fun t ht hW => ⟨1, rfl, trivial, ht⟩) (fun _ h => by cases h) dX0_isEndOf_34
set_option maxHeartbeats 4000000 in
set_option maxRecDepth 100000 in
/-- Replica.entryAt: null, or an Entry -/
theorem c_X4_entryAt (l : Launch) (dC : Nat → ClassId) (dI : Nat → Nat → Nat) (cy : Nat → ClassId) (v : Nat → Nat) (L : List Nat) (K N : Nat → Nat) (T : Nat → Nat → Nat) (I : Nat → Nat → Int32) (Q : Nat → Nat → Option Nat) (J : Nat → Nat → Int32) (a : Nat) (xo : Int32) (hC : CT v L K N T I Q) (ha : a ∈ L) (hk : K a = 4) : Met l yX4_entryAt wsX4_entryAt ({ frames := 1, cells := 0, slots := 0, locals := 22 }) (va_Pc [.ref a, .int xo] (pB dC dI cy L (pF cy K N T I Q J))) (va_Sq (fun r => ∀ b, r = some b → b ∈ L ∧ K b = 0)) 0 0 (fun _ => False) := by
  refine Met.ofW (cc := cX4_entryAt) (maxL := 2) (ret := (some (.object "TallyLogs$Entry"))) (by decide) rfl ?_
  intro p e s m args below meth c s₁ B hml hv
  obtain ⟨rfl, hP, hK, hN⟩ := hv
  have hx := B.exec
  have hb := B.bytes
  have hr := B.returns
  have hts := atoms_spec (ws := wsX4_entryAt) B.pre
  have hown : s.vm.findClass RX4 = some m.cls := findClass_of_methodNamed B.named
  have hlocks := B.notSynchronized
  have hi4 : ∀ w ∈ wsX40, w ∈ wsX4_entryAt := by decide +kernel
  have hl := lv_entry ([.ref a, .int xo]) (n := 2) (Nat.le_of_ble_eq_true rfl)
  rw [lg_entry_eq]
  generalize (lg_sl ([.ref a, .int xo]) ++ List.replicate (2 - (lg_sl ([.ref a, .int xo])).length) Slot.unset).toArray = ls at hl ⊢
  have hl : lv_has ls 2 [(0, .ref a), (1, .int xo)] := hl
  have hn28 := hN.1
  have hn30 := hN.2.1
  have hn37 := hN.2.2.1
  refine lv_iload_n hx hb dX4_entryAt_0 rfl (lv_at hl 1 rfl) ?_
  refine lv_aload_n hx hb dX4_entryAt_1 rfl (lv_at hl 0 rfl) ?_
  obtain ⟨j28, hj28⟩ := pG_4 (cy := cy) (N := N) (T := T) (I := I) (Q := Q) (J := J) ha hk
  refine va_get (D := (dC, dI)) (ci := 4) (v := .int (I a 1)) (C := RX4) (T := TX4) (N := 7) hx hb hts hi4 hown hK hP j28 hj28 rfl 1 (by decide) (hts (.fieldLink RX4 17 "TallyLogs$Replica" "start" "I") (by decide +kernel)) (fun _ h9 => h9) rfl dX4_entryAt_2 ?_
  refine lv_topi (fun x29 ex29 => ?_)
  refine lv_icmp_lt (tgt := 16) hx hb dX4_entryAt_5 (by decide) (fun c30 => ?_) (fun c30 => ?_)
  · refine lv_null hx hb dX4_entryAt_16 ?_
    refine lv_goto (tgt := 31) hx hb dX4_entryAt_17 (by decide) ?_
    exact W.aret (v := .null) hx hb hr (Or.inl ⟨_, rfl⟩) (Or.inl rfl) (fun t ht hW => ⟨none, rfl, (fun _ h => by cases h), ht⟩) (fun _ h => by cases h) dX4_entryAt_31
  · refine lv_iload_n hx hb dX4_entryAt_8 rfl (lv_at hl 1 rfl) ?_
    refine lv_aload_n hx hb dX4_entryAt_9 rfl (lv_at hl 0 rfl) ?_
    obtain ⟨j31, hj31⟩ := pG_4 (cy := cy) (N := N) (T := T) (I := I) (Q := Q) (J := J) ha hk
    refine va_get (D := (dC, dI)) (ci := 4) (v := .int (I a 2)) (C := RX4) (T := TX4) (N := 7) hx hb hts hi4 hown hK hP j31 hj31 rfl 2 (by decide) (hts (.fieldLink RX4 21 "TallyLogs$Replica" "end" "I") (by decide +kernel)) (fun _ h9 => h9) rfl dX4_entryAt_10 ?_
    refine lv_topi (fun x32 ex32 => ?_)
    refine lv_icmp_lt (tgt := 20) hx hb dX4_entryAt_13 (by decide) (fun c33 => ?_) (fun c33 => ?_)
    · refine lv_aload_n hx hb dX4_entryAt_20 rfl (lv_at hl 0 rfl) ?_
      obtain ⟨j34, hj34⟩ := pG_4 (cy := cy) (N := N) (T := T) (I := I) (Q := Q) (J := J) ha hk
      refine va_get (D := (dC, dI)) (ci := 4) (v := .ref (T a 0)) (C := RX4) (T := TX4) (N := 7) hx hb hts hi4 hown hK hP j34 hj34 rfl 0 (by decide) (hts (.fieldLink RX4 11 "TallyLogs$Replica" "slots" "[LTallyLogs$Entry;") (by decide +kernel)) (fun _ h9 => h9) rfl dX4_entryAt_21 ?_
      obtain ⟨t35, et35⟩ : ∃ t, t = T a 0 := ⟨_, rfl⟩
      have hLt35 : t35 ∈ L := by rw [et35]; exact (hC.2.2.2.2.2.2.1 a ha hk).1
      have hkt35 : K t35 = 8 := by rw [et35]; exact (hC.2.2.2.2.2.2.1 a ha hk).2
      refine W.eq (g2 := F0 m 24 ls [.ref t35]) (by rw [et35]) ?_
      refine lv_iload_n hx hb dX4_entryAt_24 rfl (lv_at hl 1 rfl) ?_
      refine lv_bipush (v := 60) hx hb dX4_entryAt_25 (by decide) ?_
      refine vp_callSi (W.runS (As := [.int xo, .int 60]) (rest := [.ref t35]) ⟨hx, hb, hml, hown, hts⟩ (c_J9_floorMod_7cf53 l xo) (va_cwS 2 hts gX4_entryAt_J9_floorMod_7cf53 rfl rfl rfl (by decide +kernel) ⟨Nat.le_of_ble_eq_true rfl, Nat.le_of_ble_eq_true rfl⟩) preEq rfl rfl hl.1 rfl (lv_room (Nat.le_of_ble_eq_true rfl)) dX4_entryAt_27 ⟨Nat.le_of_ble_eq_true rfl, Nat.le_of_ble_eq_true rfl⟩) (fun r36 hr36 => ?_)
      have hinr36 : vp_in r36 60 := by rw [hr36]; exact sp_fm_in _
      obtain ⟨j37, hj37⟩ := pG_8 (cy := cy) (N := N) (T := T) (I := I) (Q := Q) (J := J) hLt35 hkt35
      refine va_aldq hx hb hK hP j37 1 hj37 rfl hinr36 dX4_entryAt_30 ?_
      cases hq39 : Q t35 r36.toNatClampNeg with
      | none =>
        refine W.eq (g2 := F0 m 31 ls [.null]) rfl ?_
        exact W.aret (v := .null) hx hb hr (Or.inl ⟨_, rfl⟩) (Or.inl rfl) (fun t ht hW => ⟨none, rfl, (fun _ h => by cases h), ht⟩) (fun _ h => by cases h) dX4_entryAt_31
      | some b38 =>
        have hTb38 := (hC.2.2.2.2.2.2.2.2 t35 hLt35 hkt35 r36.toNatClampNeg b38 (vp_lt hinr36) hq39)
        refine W.eq (g2 := F0 m 31 ls [.ref b38]) rfl ?_
        exact W.aret (v := .ref b38) hx hb hr (Or.inl ⟨_, rfl⟩) (Or.inr ⟨_, rfl⟩) (fun t ht hW => ⟨some b38, rfl, (fun _ h => by cases h; exact ⟨hTb38.1, hTb38.2⟩), ht⟩) (fun _ h => by cases h) dX4_entryAt_31
    · refine lv_null hx hb dX4_entryAt_16 ?_
      refine lv_goto (tgt := 31) hx hb dX4_entryAt_17 (by decide) ?_
      exact W.aret (v := .null) hx hb hr (Or.inl ⟨_, rfl⟩) (Or.inl rfl) (fun t ht hW => ⟨none, rfl, (fun _ h => by cases h), ht⟩) (fun _ h => by cases h) dX4_entryAt_31
set_option maxHeartbeats 4000000 in
set_option maxRecDepth 100000 in
/-- Replica.held -/
theorem c_X4_held (l : Launch) (dC : Nat → ClassId) (dI : Nat → Nat → Nat) (cy : Nat → ClassId) (v : Nat → Nat) (L : List Nat) (K N : Nat → Nat) (T : Nat → Nat → Nat) (I : Nat → Nat → Int32) (Q : Nat → Nat → Option Nat) (J : Nat → Nat → Int32) (a : Nat)  (hC : CT v L K N T I Q) (ha : a ∈ L) (hk : K a = 4) : Met l yX4_held wsX4_held ({ frames := 0, cells := 0, slots := 0, locals := 0 }) (va_Pc [.ref a] (pB dC dI cy L (pF cy K N T I Q J))) (vp_Si (fun r => True)) 0 0 (fun _ => False) := by
  refine Met.ofW (cc := cX4_held) (maxL := 1) (ret := (some .int)) (by decide) rfl ?_
  intro p e s m args below meth c s₁ B hml hv
  obtain ⟨rfl, hP, hK, hN⟩ := hv
  have hx := B.exec
  have hb := B.bytes
  have hr := B.returns
  have hts := atoms_spec (ws := wsX4_held) B.pre
  have hown : s.vm.findClass RX4 = some m.cls := findClass_of_methodNamed B.named
  have hlocks := B.notSynchronized
  have hi4 : ∀ w ∈ wsX40, w ∈ wsX4_held := by decide +kernel
  have hl := lv_entry ([.ref a]) (n := 1) (Nat.le_of_ble_eq_true rfl)
  rw [lg_entry_eq]
  generalize (lg_sl ([.ref a]) ++ List.replicate (1 - (lg_sl ([.ref a])).length) Slot.unset).toArray = ls at hl ⊢
  have hl : lv_has ls 1 [(0, .ref a)] := hl
  have hn28 := hN.1
  have hn30 := hN.2.1
  have hn37 := hN.2.2.1
  refine lv_aload_n hx hb dX4_held_0 rfl (lv_at hl 0 rfl) ?_
  obtain ⟨j40, hj40⟩ := pG_4 (cy := cy) (N := N) (T := T) (I := I) (Q := Q) (J := J) ha hk
  refine va_get (D := (dC, dI)) (ci := 4) (v := .int (I a 2)) (C := RX4) (T := TX4) (N := 7) hx hb hts hi4 hown hK hP j40 hj40 rfl 2 (by decide) (hts (.fieldLink RX4 21 "TallyLogs$Replica" "end" "I") (by decide +kernel)) (fun _ h9 => h9) rfl dX4_held_1 ?_
  refine lv_topi (fun x41 ex41 => ?_)
  refine lv_aload_n hx hb dX4_held_4 rfl (lv_at hl 0 rfl) ?_
  obtain ⟨j42, hj42⟩ := pG_4 (cy := cy) (N := N) (T := T) (I := I) (Q := Q) (J := J) ha hk
  refine va_get (D := (dC, dI)) (ci := 4) (v := .int (I a 1)) (C := RX4) (T := TX4) (N := 7) hx hb hts hi4 hown hK hP j42 hj42 rfl 1 (by decide) (hts (.fieldLink RX4 17 "TallyLogs$Replica" "start" "I") (by decide +kernel)) (fun _ h9 => h9) rfl dX4_held_5 ?_
  refine lv_topi (fun x43 ex43 => ?_)
  refine lv_isub hx hb dX4_held_8 ?_
  refine lv_topi (fun v44 ev44 => ?_)
  exact W.iret (v := v44) hx hb hr (fun t ht hW => ⟨v44, rfl, trivial, ht⟩) (fun _ h => by cases h) dX4_held_9
