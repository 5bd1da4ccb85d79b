set_option maxHeartbeats 4000000 in
set_option maxRecDepth 100000 in
/-- Partition.replicaAt -/
theorem c_X2_replicaAt (l : Launch) (dC : Nat → ClassId) (dI : Nat → Nat → Nat) (cy : Nat → ClassId) (v : Nat → Nat) (L : List Nat) (K N : Nat → Nat) (T : Nat → Nat → Nat) (I : Nat → Nat → Int32) (Q : Nat → Nat → Option Nat) (J : Nat → Nat → Int32) (a : Nat) (xn : Int32) (hC : CT v L K N T I Q) (ha : a ∈ L) (hk : K a = 2) : Met l yX2_replicaAt wsX2_replicaAt ({ frames := 0, cells := 0, slots := 0, locals := 0 }) (va_Pc [.ref a, .int xn] (pB dC dI cy L (pF cy K N T I Q J))) (va_Sq (fun r => ∀ b, r = some b → b ∈ L ∧ K b = 4)) 0 0 (fun _ => False) := by
  refine Met.ofW (cc := cX2_replicaAt) (maxL := 2) (ret := (some (.object "TallyLogs$Replica"))) (by decide) rfl ?_
  intro p e s m args below meth c s₁ B hml hv
  obtain ⟨rfl, hP, hK, hN⟩ := hv
  have hx := B.exec
  have hb := B.bytes
  have hr := B.returns
  have hts := atoms_spec (ws := wsX2_replicaAt) B.pre
  have hown : s.vm.findClass RX2 = some m.cls := findClass_of_methodNamed B.named
  have hlocks := B.notSynchronized
  have hi2 : ∀ w ∈ wsX20, w ∈ wsX2_replicaAt := by decide +kernel
  have hl := lv_entry ([.ref a, .int xn]) (n := 2) (Nat.le_of_ble_eq_true rfl)
  rw [lg_entry_eq]
  generalize (lg_sl ([.ref a, .int xn]) ++ List.replicate (2 - (lg_sl ([.ref a, .int xn])).length) Slot.unset).toArray = ls at hl ⊢
  have hl : lv_has ls 2 [(0, .ref a), (1, .int xn)] := hl
  have hn28 := hN.1
  have hn30 := hN.2.1
  have hn37 := hN.2.2.1
  refine lv_iload_n hx hb dX2_replicaAt_0 rfl (lv_at hl 1 rfl) ?_
  refine lv_if_lt (tgt := 9) hx hb dX2_replicaAt_1 (by decide) (fun c295 => ?_) (fun c295 => ?_)
  · refine lv_null hx hb dX2_replicaAt_9 ?_
    refine lv_goto (tgt := 19) hx hb dX2_replicaAt_10 (by decide) ?_
    exact W.aret (v := .null) hx hb hr (Or.inl ⟨_, rfl⟩) (Or.inl rfl) (fun t ht hW => ⟨none, rfl, (fun _ h => by cases h), ht⟩) (fun _ h => by cases h) dX2_replicaAt_19
  · refine lv_iload_n hx hb dX2_replicaAt_4 rfl (lv_at hl 1 rfl) ?_
    refine lv_iconst (v := 5) hx hb dX2_replicaAt_5 (by decide) ?_
    refine lv_icmp_lt (tgt := 13) hx hb dX2_replicaAt_6 (by decide) (fun c296 => ?_) (fun c296 => ?_)
    · refine lv_aload_n hx hb dX2_replicaAt_13 rfl (lv_at hl 0 rfl) ?_
      obtain ⟨j297, hj297⟩ := pG_2 (cy := cy) (N := N) (T := T) (I := I) (Q := Q) (J := J) ha hk
      refine va_get (D := (dC, dI)) (ci := 2) (v := .ref (T a 2)) (C := RX2) (T := TX2) (N := 6) hx hb hts hi2 hown hK hP j297 hj297 rfl 2 (by decide) (hts (.fieldLink RX2 11 "TallyLogs$Partition" "replicas" "[LTallyLogs$Replica;") (by decide +kernel)) (fun _ h9 => h9) rfl dX2_replicaAt_14 ?_
      obtain ⟨t298, et298⟩ : ∃ t, t = T a 2 := ⟨_, rfl⟩
      have hLt298 : t298 ∈ L := by rw [et298]; exact (hC.2.2.2.2.1 a ha hk).1
      have hkt298 : K t298 = 12 := by rw [et298]; exact (hC.2.2.2.2.1 a ha hk).2
      refine W.eq (g2 := F0 m 17 ls [.ref t298]) (by rw [et298]) ?_
      refine lv_iload_n hx hb dX2_replicaAt_17 rfl (lv_at hl 1 rfl) ?_
      have hin299 : vp_in xn 5 := xin_of (by have kc295 := c295; have kc296 := c296; simp only [xk_lt, xk_le, xk_0, xk_1, xk_2, xk_3, xk_4, xk_5, xk_6, xk_7, xk_8, xk_50] at kc295 kc296; omega) (by have kc295 := c295; have kc296 := c296; simp only [xk_lt, xk_le, xk_0, xk_1, xk_2, xk_3, xk_4, xk_5, xk_6, xk_7, xk_8, xk_50] at kc295 kc296; omega)
      obtain ⟨j300, hj300⟩ := pG_12 (cy := cy) (N := N) (T := T) (I := I) (Q := Q) (J := J) hLt298 hkt298
      refine va_aldq hx hb hK hP j300 5 hj300 rfl hin299 dX2_replicaAt_18 ?_
      cases hq302 : Q t298 xn.toNatClampNeg with
      | none =>
        refine W.eq (g2 := F0 m 19 ls [.null]) rfl ?_
        exact W.aret (v := .null) hx hb hr (Or.inl ⟨_, rfl⟩) (Or.inl rfl) (fun t ht hW => ⟨none, rfl, (fun _ h => by cases h), ht⟩) (fun _ h => by cases h) dX2_replicaAt_19
      | some b301 =>
        have hTb301 := (hC.2.2.2.2.2.1 t298 hLt298 hkt298 xn.toNatClampNeg b301 (vp_lt hin299) hq302)
        refine W.eq (g2 := F0 m 19 ls [.ref b301]) rfl ?_
        exact W.aret (v := .ref b301) hx hb hr (Or.inl ⟨_, rfl⟩) (Or.inr ⟨_, rfl⟩) (fun t ht hW => ⟨some b301, rfl, (fun _ h => by cases h; exact ⟨hTb301.1, hTb301.2⟩), ht⟩) (fun _ h => by cases h) dX2_replicaAt_19
    · refine lv_null hx hb dX2_replicaAt_9 ?_
      refine lv_goto (tgt := 19) hx hb dX2_replicaAt_10 (by decide) ?_
      exact W.aret (v := .null) hx hb hr (Or.inl ⟨_, rfl⟩) (Or.inl rfl) (fun t ht hW => ⟨none, rfl, (fun _ h => by cases h), ht⟩) (fun _ h => by cases h) dX2_replicaAt_19
set_option maxHeartbeats 4000000 in
set_option maxRecDepth 100000 in
/-- Partition.leading -/
theorem c_X2_leading (l : Launch) (dC : Nat → ClassId) (dI : Nat → Nat → Nat) (cy : Nat → ClassId) (v : Nat → Nat) (L : List Nat) (K N : Nat → Nat) (T : Nat → Nat → Nat) (I : Nat → Nat → Int32) (Q : Nat → Nat → Option Nat) (J : Nat → Nat → Int32) (a : Nat)  (hC : CT v L K N T I Q) (ha : a ∈ L) (hk : K a = 2) : Met l yX2_leading wsX2_leading ({ frames := 1, cells := 0, slots := 0, locals := 21 }) (va_Pc [.ref a] (pB dC dI cy L (pF cy K N T I Q J))) (va_Sq (fun r => ∀ b, r = some b → b ∈ L ∧ K b = 4)) 0 0 (fun _ => False) := by
  refine Met.ofW (cc := cX2_leading) (maxL := 1) (ret := (some (.object "TallyLogs$Replica"))) (by decide) rfl ?_
  intro p e s m args below meth c s₁ B hml hv
  obtain ⟨rfl, hP, hK, hN⟩ := hv
  have hx := B.exec
  have hb := B.bytes
  have hr := B.returns
  have hts := atoms_spec (ws := wsX2_leading) B.pre
  have hown : s.vm.findClass RX2 = some m.cls := findClass_of_methodNamed B.named
  have hlocks := B.notSynchronized
  have hi2 : ∀ w ∈ wsX20, w ∈ wsX2_leading := by decide +kernel
  have hl := lv_entry ([.ref a]) (n := 1) (Nat.le_of_ble_eq_true rfl)
  rw [lg_entry_eq]
  generalize (lg_sl ([.ref a]) ++ List.replicate (1 - (lg_sl ([.ref a])).length) Slot.unset).toArray = ls at hl ⊢
  have hl : lv_has ls 1 [(0, .ref a)] := hl
  have hn28 := hN.1
  have hn30 := hN.2.1
  have hn37 := hN.2.2.1
  refine lv_aload_n hx hb dX2_leading_0 rfl (lv_at hl 0 rfl) ?_
  refine lv_aload_n hx hb dX2_leading_1 rfl (lv_at hl 0 rfl) ?_
  obtain ⟨j303, hj303⟩ := pG_2 (cy := cy) (N := N) (T := T) (I := I) (Q := Q) (J := J) ha hk
  refine va_get (D := (dC, dI)) (ci := 2) (v := .int (I a 3)) (C := RX2) (T := TX2) (N := 6) hx hb hts hi2 hown hK hP j303 hj303 rfl 3 (by decide) (hts (.fieldLink RX2 34 "TallyLogs$Partition" "leader" "I") (by decide +kernel)) (fun _ h9 => h9) rfl dX2_leading_2 ?_
  refine lv_topi (fun x304 ex304 => ?_)
  obtain ⟨j306, hj306⟩ := pG_2 (cy := cy) (N := N) (T := T) (I := I) (Q := Q) (J := J) ha hk
  refine va_csq (W.runV (As := [.int x304]) (rest := []) ⟨hx, hb, hml, hown, hts⟩ (c_X2_replicaAt l dC dI cy v L K N T I Q J a x304 hC ha hk) (cwV 1 hts gX2_leading_X2_replicaAt rfl rfl rfl (by decide +kernel) ⟨Nat.le_of_ble_eq_true rfl, Nat.le_of_ble_eq_true rfl⟩) ⟨pb_blind, va_recv hK hP (ci := 2) (q0 := j306) rfl hj306, fun U hU hW => ⟨rfl, pb_pre hP hK hN hU hW⟩⟩ rfl rfl hl.1 rfl (lv_room (Nat.le_of_ble_eq_true rfl)) dX2_leading_5 ⟨Nat.le_of_ble_eq_true rfl, Nat.le_of_ble_eq_true rfl⟩) (fun r305 hr305 => ?_)
  cases r305 with
  | none =>
    refine W.eq (g2 := F0 m 8 ls [.null]) rfl ?_
    exact W.aret (v := .null) hx hb hr (Or.inl ⟨_, rfl⟩) (Or.inl rfl) (fun t ht hW => ⟨none, rfl, (fun _ h => by cases h), ht⟩) (fun _ h => by cases h) dX2_leading_8
  | some b307 =>
    have hTb307 := hr305 b307 rfl
    refine W.eq (g2 := F0 m 8 ls [.ref b307]) rfl ?_
    exact W.aret (v := .ref b307) hx hb hr (Or.inl ⟨_, rfl⟩) (Or.inr ⟨_, rfl⟩) (fun t ht hW => ⟨some b307, rfl, (fun _ h => by cases h; exact ⟨hTb307.1, hTb307.2⟩), ht⟩) (fun _ h => by cases h) dX2_leading_8
set_option maxHeartbeats 4000000 in
set_option maxRecDepth 100000 in
/-- Partition.knownEnd -/
theorem c_X2_knownEnd (l : Launch) (dC : Nat → ClassId) (dI : Nat → Nat → Nat) (cy : Nat → ClassId) (v : Nat → Nat) (L : List Nat) (K N : Nat → Nat) (T : Nat → Nat → Nat) (I : Nat → Nat → Int32) (Q : Nat → Nat → Option Nat) (J : Nat → Nat → Int32) (a : Nat) (xn : Int32) (hC : CT v L K N T I Q) (ha : a ∈ L) (hk : K a = 2) : Met l yX2_knownEnd wsX2_knownEnd ({ frames := 1, cells := 0, slots := 0, locals := 21 }) (va_Pc [.ref a, .int xn] (pB dC dI cy L (pF cy K N T I Q J))) (vp_Si (fun r => True)) 0 0 (fun _ => False) := by
  refine Met.ofW (cc := cX2_knownEnd) (maxL := 3) (ret := (some .int)) (by decide) rfl ?_
  intro p e s m args below meth c s₁ B hml hv
  obtain ⟨rfl, hP, hK, hN⟩ := hv
  have hx := B.exec
  have hb := B.bytes
  have hr := B.returns
  have hts := atoms_spec (ws := wsX2_knownEnd) B.pre
  have hown : s.vm.findClass RX2 = some m.cls := findClass_of_methodNamed B.named
  have hlocks := B.notSynchronized
  have hi2 : ∀ w ∈ wsX20, w ∈ wsX2_knownEnd := by decide +kernel
  have hi4 : ∀ w ∈ wsX40, w ∈ wsX2_knownEnd := by decide +kernel
  have hl := lv_entry ([.ref a, .int xn]) (n := 3) (Nat.le_of_ble_eq_true rfl)
  rw [lg_entry_eq]
  generalize (lg_sl ([.ref a, .int xn]) ++ List.replicate (3 - (lg_sl ([.ref a, .int xn])).length) Slot.unset).toArray = ls at hl ⊢
  have hl : lv_has ls 3 [(0, .ref a), (1, .int xn)] := hl
  have hn28 := hN.1
  have hn30 := hN.2.1
  have hn37 := hN.2.2.1
  refine lv_aload_n hx hb dX2_knownEnd_0 rfl (lv_at hl 0 rfl) ?_
  refine lv_iload_n hx hb dX2_knownEnd_1 rfl (lv_at hl 1 rfl) ?_
  obtain ⟨j309, hj309⟩ := pG_2 (cy := cy) (N := N) (T := T) (I := I) (Q := Q) (J := J) ha hk
  refine va_csq (W.runV (As := [.int xn]) (rest := []) ⟨hx, hb, hml, hown, hts⟩ (c_X2_replicaAt l dC dI cy v L K N T I Q J a xn hC ha hk) (cwV 1 hts gX2_knownEnd_X2_replicaAt rfl rfl rfl (by decide +kernel) ⟨Nat.le_of_ble_eq_true rfl, Nat.le_of_ble_eq_true rfl⟩) ⟨pb_blind, va_recv hK hP (ci := 2) (q0 := j309) rfl hj309, fun U hU hW => ⟨rfl, pb_pre hP hK hN hU hW⟩⟩ rfl rfl hl.1 rfl (lv_room (Nat.le_of_ble_eq_true rfl)) dX2_knownEnd_2 ⟨Nat.le_of_ble_eq_true rfl, Nat.le_of_ble_eq_true rfl⟩) (fun r308 hr308 => ?_)
  cases r308 with
  | none =>
    refine W.eq (g2 := F0 m 5 ls [.null]) rfl ?_
    refine lv_astore_nN (lv' := [(2, .null), (0, .ref a), (1, .int xn)]) hx hb dX2_knownEnd_5 rfl hl (by decide) rfl (fun ls hl => ?_)
    refine lv_aload_nN hx hb dX2_knownEnd_6 rfl (lv_at hl 0 rfl) ?_
    refine lv_ifnonnullN hx hb dX2_knownEnd_7 ?_
    refine lv_iconst (v := (-1)) hx hb dX2_knownEnd_10 (by decide) ?_
    exact W.iret (v := (-1)) hx hb hr (fun t ht hW => ⟨(-1), rfl, trivial, ht⟩) (fun _ h => by cases h) dX2_knownEnd_11
  | some b310 =>
    have hTb310 := hr308 b310 rfl
    refine W.eq (g2 := F0 m 5 ls [.ref b310]) rfl ?_
    refine lv_astore_n (lv' := [(2, .ref b310), (0, .ref a), (1, .int xn)]) hx hb dX2_knownEnd_5 rfl hl (by decide) rfl (fun ls hl => ?_)
    refine lv_aload_n hx hb dX2_knownEnd_6 rfl (lv_at hl 0 rfl) ?_
    refine lv_ifnonnull (tgt := 12) hx hb dX2_knownEnd_7 (by decide) ?_
    refine lv_iload_n hx hb dX2_knownEnd_12 rfl (lv_at hl 2 rfl) ?_
    refine lv_aload_n hx hb dX2_knownEnd_13 rfl (lv_at hl 1 rfl) ?_
    obtain ⟨j311, hj311⟩ := pG_2 (cy := cy) (N := N) (T := T) (I := I) (Q := Q) (J := J) ha hk
    refine va_get (D := (dC, dI)) (ci := 2) (v := .int (I a 3)) (C := RX2) (T := TX2) (N := 6) hx hb hts hi2 hown hK hP j311 hj311 rfl 3 (by decide) (hts (.fieldLink RX2 34 "TallyLogs$Partition" "leader" "I") (by decide +kernel)) (fun _ h9 => h9) rfl dX2_knownEnd_14 ?_
    refine lv_topi (fun x312 ex312 => ?_)
    refine lv_icmp_ne (tgt := 27) hx hb dX2_knownEnd_17 (by decide) (fun c313 => ?_) (fun c313 => ?_)
    · refine lv_aload_n hx hb dX2_knownEnd_27 rfl (lv_at hl 0 rfl) ?_
      obtain ⟨j314, hj314⟩ := pG_4 (cy := cy) (N := N) (T := T) (I := I) (Q := Q) (J := J) hTb310.1 hTb310.2
      refine va_get (D := (dC, dI)) (ci := 4) (v := .int (I b310 5)) (C := RX4) (T := TX4) (N := 7) hx hb hts hi4 hown hK hP j314 hj314 rfl 5 (by decide) (hts (.fieldLink RX2 51 "TallyLogs$Replica" "known" "I") (by decide +kernel)) (fun _ h9 => h9) rfl dX2_knownEnd_28 ?_
      refine lv_topi (fun x315 ex315 => ?_)
      exact W.iret (v := x315) hx hb hr (fun t ht hW => ⟨x315, rfl, trivial, ht⟩) (fun _ h => by cases h) dX2_knownEnd_31
    · refine lv_aload_n hx hb dX2_knownEnd_20 rfl (lv_at hl 0 rfl) ?_
      obtain ⟨j316, hj316⟩ := pG_4 (cy := cy) (N := N) (T := T) (I := I) (Q := Q) (J := J) hTb310.1 hTb310.2
      refine va_get (D := (dC, dI)) (ci := 4) (v := .int (I b310 2)) (C := RX4) (T := TX4) (N := 7) hx hb hts hi4 hown hK hP j316 hj316 rfl 2 (by decide) (hts (.fieldLink RX2 48 "TallyLogs$Replica" "end" "I") (by decide +kernel)) (fun _ h9 => h9) rfl dX2_knownEnd_21 ?_
      refine lv_topi (fun x317 ex317 => ?_)
      refine lv_goto (tgt := 31) hx hb dX2_knownEnd_24 (by decide) ?_
      exact W.iret (v := x317) hx hb hr (fun t ht hW => ⟨x317, rfl, trivial, ht⟩) (fun _ h => by cases h) dX2_knownEnd_31
