set_option maxHeartbeats 4000000 in
set_option maxRecDepth 100000 in
/-- Partition.replicaAt -/
theorem c_X2_replicaAt (l : Launch) (dC : Nat → ClassId) (dI : Nat → Nat → Nat) (cy : Nat → ClassId) (v : Nat → Nat) (L : List Nat) (K N : Nat → Nat) (T : Nat → Nat → Nat) (I : Nat → Nat → Int32) (Q : Nat → Nat → Option Nat) (J : Nat → Nat → Int32) (a : Nat) (xn : Int32) (hC : CT v L K N T I Q) (ha : a ∈ L) (hk : K a = 2) : Met l yX2_replicaAt wsX2_replicaAt ({ frames := 0, cells := 0, slots := 0, locals := 0 }) (va_Pc [.ref a, .int xn] (pB dC dI cy L (pF cy K N T I Q J))) (va_Sq (fun r => ∀ b, r = some b → b ∈ L ∧ K b = 4)) 0 0 (fun _ => False) := by
  refine Met.ofW (cc := cX2_replicaAt) (maxL := 2) (ret := (some (.object "TallyLogs$Replica"))) (by decide) rfl ?_
  intro p e s m args below meth c s₁ B hml hv
  obtain ⟨rfl, hP, hK, hN⟩ := hv
  have hx := B.exec
  have hb := B.bytes
  have hr := B.returns
  have hts := atoms_spec (ws := wsX2_replicaAt) B.pre
  have hown : s.vm.findClass RX2 = some m.cls := findClass_of_methodNamed B.named
  have hlocks := B.notSynchronized
  have hi2 : ∀ w ∈ wsX20, w ∈ wsX2_replicaAt := by decide +kernel
  have hl := lv_entry ([.ref a, .int xn]) (n := 2) (Nat.le_of_ble_eq_true rfl)
  rw [lg_entry_eq]
  generalize (lg_sl ([.ref a, .int xn]) ++ List.replicate (2 - (lg_sl ([.ref a, .int xn])).length) Slot.unset).toArray = ls at hl ⊢
  have hl : lv_has ls 2 [(0, .ref a), (1, .int xn)] := hl
  have hn28 := hN.1
  have hn30 := hN.2.1
  have hn37 := hN.2.2.1
  refine lv_iload_n hx hb dX2_replicaAt_0 rfl (lv_at hl 1 rfl) ?_
  refine lv_if_lt (tgt := 9) hx hb dX2_replicaAt_1 (by decide) (fun c295 => ?_) (fun c295 => ?_)
  · refine lv_null hx hb dX2_replicaAt_9 ?_
    refine lv_goto (tgt := 19) hx hb dX2_replicaAt_10 (by decide) ?_
    exact W.aret (v := .null) hx hb hr (Or.inl ⟨_, rfl⟩) (Or.inl rfl) (fun t ht hW => ⟨none, rfl, (fun _ h => by cases h), ht⟩) (fun _ h => by cases h) dX2_replicaAt_19
  · refine lv_iload_n hx hb dX2_replicaAt_4 rfl (lv_at hl 1 rfl) ?_
    refine lv_iconst (v := 5) hx hb dX2_replicaAt_5 (by decide) ?_
    refine lv_icmp_lt (tgt := 13) hx hb dX2_replicaAt_6 (by decide) (fun c296 => ?_) (fun c296 => ?_)
    · refine lv_aload_n hx hb dX2_replicaAt_13 rfl (lv_at hl 0 rfl) ?_
      obtain ⟨j297, hj297⟩ := pG_2 (cy := cy) (N := N) (T := T) (I := I) (Q := Q) (J := J) ha hk
      refine va_get (D := (dC, dI)) (ci := 2) (v := .ref (T a 2)) (C := RX2) (T := TX2) (N := 6) hx hb hts hi2 hown hK hP j297 hj297 rfl 2 (by decide) (hts (.fieldLink RX2 11 "TallyLogs$Partition" "replicas" "[LTallyLogs$Replica;") (by decide +kernel)) (fun _ h9 => h9) rfl dX2_replicaAt_14 ?_
      obtain ⟨t298, et298⟩ : ∃ t, t = T a 2 := ⟨_, rfl⟩
      have hLt298 : t298 ∈ L := by rw [et298]; exact (hC.2.2.2.2.1 a ha hk).1
      have hkt298 : K t298 = 12 := by rw [et298]; exact (hC.2.2.2.2.1 a ha hk).2
      refine W.eq (g2 := F0 m 17 ls [.ref t298]) (by rw [et298]) ?_
      refine lv_iload_n hx hb dX2_replicaAt_17 rfl (lv_at hl 1 rfl) ?_
      have hin299 : vp_in xn 5 := xin_of (by have kc295 := c295; have kc296 := c296; simp only [xk_lt, xk_le, xk_0, xk_1, xk_2, xk_3, xk_4, xk_5, xk_6, xk_7, xk_8, xk_50] at kc295 kc296; omega) (by have kc295 := c295; have kc296 := c296; simp only [xk_lt, xk_le, xk_0, xk_1, xk_2, xk_3, xk_4, xk_5, xk_6, xk_7, xk_8, xk_50] at kc295 kc296; omega)
      obtain ⟨j300, hj300⟩ := pG_12 (cy := cy) (N := N) (T := T) (I := I) (Q := Q) (J := J) hLt298 hkt298
      refine va_aldq hx hb hK hP j300 5 hj300 rfl hin299 dX2_replicaAt_18 ?_
      cases hq302 : Q t298 xn.toNatClampNeg with
      | none =>
        refine W.eq (g2 := F0 m 19 ls [.null]) rfl ?_
        exact W.aret (v := .null) hx hb hr (Or.inl ⟨_, rfl⟩) (Or.inl rfl) (fun t ht hW => ⟨none, rfl, (fun _ h => by cases h), ht⟩) (fun _ h => by cases h) dX2_replicaAt_19
      | some b301 =>
        have hTb301 := (hC.2.2.2.2.2.1 t298 hLt298 hkt298 xn.toNatClampNeg b301 (vp_lt hin299) hq302)
        refine W.eq (g2 := F0 m 19 ls [.ref b301]) rfl ?_
        exact W.aret (v := .ref b301) hx hb hr (Or.inl ⟨_, rfl⟩) (Or.inr ⟨_, rfl⟩) (fun t ht hW => ⟨some b301, rfl, (fun _ h => by cases h; exact ⟨hTb301.1, hTb301.2⟩), ht⟩) (fun _ h => by cases h) dX2_replicaAt_19
    · refine lv_null hx hb dX2_replicaAt_9 ?_
      refine lv_goto (tgt := 19) hx hb dX2_replicaAt_10 (by decide) ?_
      exact W.aret (v := .null) hx hb hr (Or.inl ⟨_, rfl⟩) (Or.inl rfl) (fun t ht hW => ⟨none, rfl, (fun _ h => by cases h), ht⟩) (fun _ h => by cases h) dX2_replicaAt_19
set_option maxHeartbeats 4000000 in
set_option maxRecDepth 100000 in
/-- Partition.leading -/
theorem c_X2_leading (l : Launch) (dC : Nat → ClassId) (dI : Nat → Nat → Nat) (cy : Nat → ClassId) (v : Nat → Nat) (L : List Nat) (K N : Nat → Nat) (T : Nat → Nat → Nat) (I : Nat → Nat → Int32) (Q : Nat → Nat → Option Nat) (J : Nat → Nat → Int32) (a : Nat)  (hC : CT v L K N T I Q) (ha : a ∈ L) (hk : K a = 2) : Met l yX2_leading wsX2_leading ({ frames := 1, cells := 0, slots := 0, locals := 21 }) (va_Pc [.ref a] (pB dC dI cy L (pF cy K N T I Q J))) (va_Sq (fun r => ∀ b, r = some b → b ∈ L ∧ K b = 4)) 0 0 (fun _ => False) := by
  refine Met.ofW (cc := cX2_leading) (maxL := 1) (ret := (some (.object "TallyLogs$Replica"))) (by decide) rfl ?_
  intro p e s m args below meth c s₁ B hml hv
  obtain ⟨rfl, hP, hK, hN⟩ := hv
  have hx := B.exec
  have hb := B.bytes
  have hr := B.returns
  have hts := atoms_spec (ws := wsX2_leading) B.pre
  have hown : s.vm.findClass RX2 = some m.cls := findClass_of_methodNamed B.named
  have hlocks := B.notSynchronized
  have hi2 : ∀ w ∈ wsX20, w ∈ wsX2_leading := by decide +kernel
  have hl := lv_entry ([.ref a]) (n := 1) (Nat.le_of_ble_eq_true rfl)
  rw [lg_entry_eq]
  generalize (lg_sl ([.ref a]) ++ List.replicate (1 - (lg_sl ([.ref a])).length) Slot.unset).toArray = ls at hl ⊢
  have hl : lv_has ls 1 [(0, .ref a)] := hl
  have hn28 := hN.1
  have hn30 := hN.2.1
  have hn37 := hN.2.2.1
  refine lv_aload_n hx hb dX2_leading_0 rfl (lv_at hl 0 rfl) ?_
  refine lv_aload_n hx hb dX2_leading_1 rfl (lv_at hl 0 rfl) ?_
  obtain ⟨j303, hj303⟩ := pG_2 (cy := cy) (N := N) (T := T) (I := I) (Q := Q) (J := J) ha hk
  refine va_get (D := (dC, dI)) (ci := 2) (v := .int (I a 3)) (C := RX2) (T := TX2) (N := 6) hx hb hts hi2 hown hK hP j303 hj303 rfl 3 (by decide) (hts (.fieldLink RX2 34 "TallyLogs$Partition" "leader" "I") (by decide +kernel)) (fun _ h9 => h9) rfl dX2_leading_2 ?_
  refine lv_topi (fun x304 ex304 => ?_)
  obtain ⟨j306, hj306⟩ := pG_2 (cy := cy) (N := N) (T := T) (I := I) (Q := Q) (J := J) ha hk
  refine va_csq (W.runV (As := [.int x304]) (rest := []) ⟨hx, hb, hml, hown, hts⟩ (c_X2_replicaAt l dC dI cy v L K N T I Q J a x304 hC ha hk) (cwV 1 hts gX2_leading_X2_replicaAt rfl rfl rfl (by decide +kernel) ⟨Nat.le_of_ble_eq_true rfl, Nat.le_of_ble_eq_true rfl⟩) ⟨pb_blind, va_recv hK hP (ci := 2) (q0 := j306) rfl hj306, fun U hU hW => ⟨rfl, pb_pre hP hK hN hU hW⟩⟩ rfl rfl hl.1 rfl (lv_room (Nat.le_of_ble_eq_true rfl)) dX2_leading_5 ⟨Nat.le_of_ble_eq_true rfl, Nat.le_of_ble_eq_true rfl⟩) (fun r305 hr305 => ?_)
  cases r305 with
  | none =>
    refine W.eq (g2 := F0 m 8 ls [.null]) rfl ?_
    exact W.aret (v := .null) hx hb hr (Or.inl ⟨_, rfl⟩) (Or.inl rfl) (fun t ht hW => ⟨none, rfl, (fun _ h => by cases h), ht⟩) (fun _ h => by cases h) dX2_leading_8
  | some b307 =>
    have hTb307 := hr305 b307 rfl
    refine W.eq (g2 := F0 m 8 ls [.ref b307]) rfl ?_
    exact W.aret (v := .ref b307) hx hb hr (Or.inl ⟨_, rfl⟩) (Or.inr ⟨_, rfl⟩) (fun t ht hW => ⟨some b307, rfl, (fun _ h => by cases h; exact ⟨hTb307.1, hTb307.2⟩), ht⟩) (fun _ h => by cases h) dX2_leading_8
set_option maxHeartbeats 4000000 in
set_option maxRecDepth 100000 in
/-- Partition.knownEnd -/
theorem c_X2_knownEnd (l : Launch) (dC : Nat → ClassId) (dI : Nat → Nat → Nat) (cy : Nat → ClassId) (v : Nat → Nat) (L : List Nat) (K N : Nat → Nat) (T : Nat → Nat → Nat) (I : Nat → Nat → Int32) (Q : Nat → Nat → Option Nat) (J : Nat → Nat → Int32) (a : Nat) (xn : Int32) (hC : CT v L K N T I Q) (ha : a ∈ L) (hk : K a = 2) : Met l yX2_knownEnd wsX2_knownEnd ({ frames := 1, cells := 0, slots := 0, locals := 21 }) (va_Pc [.ref a, .int xn] (pB dC dI cy L (pF cy K N T I Q J))) (vp_Si (fun r => True)) 0 0 (fun _ => False) := by
  refine Met.ofW (cc := cX2_knownEnd) (maxL := 3) (ret := (some .int)) (by decide) rfl ?_
  intro p e s m args below meth c s₁ B hml hv
  obtain ⟨rfl, hP, hK, hN⟩ := hv
  have hx := B.exec
  have hb := B.bytes
  have hr := B.returns
  have hts := atoms_spec (ws := wsX2_knownEnd) B.pre
  have hown : s.vm.findClass RX2 = some m.cls := findClass_of_methodNamed B.named
  have hlocks := B.notSynchronized
  have hi2 : ∀ w ∈ wsX20, w ∈ wsX2_knownEnd := by decide +kernel
  have hi4 : ∀ w ∈ wsX40, w ∈ wsX2_knownEnd := by decide +kernel
  have hl := lv_entry ([.ref a, .int xn]) (n := 3) (Nat.le_of_ble_eq_true rfl)
  rw [lg_entry_eq]
  generalize (lg_sl ([.ref a, .int xn]) ++ List.replicate (3 - (lg_sl ([.ref a, .int xn])).length) Slot.unset).toArray = ls at hl ⊢
  have hl : lv_has ls 3 [(0, .ref a), (1, .int xn)] := hl
  have hn28 := hN.1
  have hn30 := hN.2.1
  have hn37 := hN.2.2.1
  refine lv_aload_n hx hb dX2_knownEnd_0 rfl (lv_at hl 0 rfl) ?_
  refine lv_iload_n hx hb dX2_knownEnd_1 rfl (lv_at hl 1 rfl) ?_
  obtain ⟨j309, hj309⟩ := pG_2 (cy := cy) (N := N) (T := T) (I := I) (Q := Q) (J := J) ha hk
  refine va_csq (W.runV (As := [.int xn]) (rest := []) ⟨hx, hb, hml, hown, hts⟩ (c_X2_replicaAt l dC dI cy v L K N T I Q J a xn hC ha hk) (cwV 1 hts gX2_knownEnd_X2_replicaAt rfl rfl rfl (by decide +kernel) ⟨Nat.le_of_ble_eq_true rfl, Nat.le_of_ble_eq_true rfl⟩) ⟨pb_blind, va_recv hK hP (ci := 2) (q0 := j309) rfl hj309, fun U hU hW => ⟨rfl, pb_pre hP hK hN hU hW⟩⟩ rfl rfl hl.1 rfl (lv_room (Nat.le_of_ble_eq_true rfl)) dX2_knownEnd_2 ⟨Nat.le_of_ble_eq_true rfl, Nat.le_of_ble_eq_true rfl⟩) (fun r308 hr308 => ?_)
  cases r308 with
  | none =>
    refine W.eq (g2 := F0 m 5 ls [.null]) rfl ?_
    refine lv_astore_nN (lv' := [(2, .null), (0, .ref a), (1, .int xn)]) hx hb dX2_knownEnd_5 rfl hl (by decide) rfl (fun ls hl => ?_)
    refine lv_aload_nN hx hb dX2_knownEnd_6 rfl (lv_at hl 0 rfl) ?_
    refine lv_ifnonnullN hx hb dX2_knownEnd_7 ?_
    refine lv_iconst (v := (-1)) hx hb dX2_knownEnd_10 (by decide) ?_
    exact W.iret (v := (-1)) hx hb hr (fun t ht hW => ⟨(-1), rfl, trivial, ht⟩) (fun _ h => by cases h) dX2_knownEnd_11
  | some b310 =>
    have hTb310 := hr308 b310 rfl
    refine W.eq (g2 := F0 m 5 ls [.ref b310]) rfl ?_
    refine lv_astore_n (lv' := [(2, .ref b310), (0, .ref a), (1, .int xn)]) hx hb dX2_knownEnd_5 rfl hl (by decide) rfl (fun ls hl => ?_)
    refine lv_aload_n hx hb dX2_knownEnd_6 rfl (lv_at hl 0 rfl) ?_
    refine lv_ifnonnull (tgt := 12) hx hb dX2_knownEnd_7 (by decide) ?_
    refine lv_iload_n hx hb dX2_knownEnd_12 rfl (lv_at hl 2 rfl) ?_
    refine lv_aload_n hx hb dX2_knownEnd_13 rfl (lv_at hl 1 rfl) ?_
    obtain ⟨j311, hj311⟩ := pG_2 (cy := cy) (N := N) (T := T) (I := I) (Q := Q) (J := J) ha hk
    refine va_get (D := (dC, dI)) (ci := 2) (v := .int (I a 3)) (C := RX2) (T := TX2) (N := 6) hx hb hts hi2 hown hK hP j311 hj311 rfl 3 (by decide) (hts (.fieldLink RX2 34 "TallyLogs$Partition" "leader" "I") (by decide +kernel)) (fun _ h9 => h9) rfl dX2_knownEnd_14 ?_
    refine lv_topi (fun x312 ex312 => ?_)
    refine lv_icmp_ne (tgt := 27) hx hb dX2_knownEnd_17 (by decide) (fun c313 => ?_) (fun c313 => ?_)
    · refine lv_aload_n hx hb dX2_knownEnd_27 rfl (lv_at hl 0 rfl) ?_
      obtain ⟨j314, hj314⟩ := pG_4 (cy := cy) (N := N) (T := T) (I := I) (Q := Q) (J := J) hTb310.1 hTb310.2
      refine va_get (D := (dC, dI)) (ci := 4) (v := .int (I b310 5)) (C := RX4) (T := TX4) (N := 7) hx hb hts hi4 hown hK hP j314 hj314 rfl 5 (by decide) (hts (.fieldLink RX2 51 "TallyLogs$Replica" "known" "I") (by decide +kernel)) (fun _ h9 => h9) rfl dX2_knownEnd_28 ?_
      refine lv_topi (fun x315 ex315 => ?_)
      exact W.iret (v := x315) hx hb hr (fun t ht hW => ⟨x315, rfl, trivial, ht⟩) (fun _ h => by cases h) dX2_knownEnd_31
    · refine lv_aload_n hx hb dX2_knownEnd_20 rfl (lv_at hl 0 rfl) ?_
      obtain ⟨j316, hj316⟩ := pG_4 (cy := cy) (N := N) (T := T) (I := I) (Q := Q) (J := J) hTb310.1 hTb310.2
      refine va_get (D := (dC, dI)) (ci := 4) (v := .int (I b310 2)) (C := RX4) (T := TX4) (N := 7) hx hb hts hi4 hown hK hP j316 hj316 rfl 2 (by decide) (hts (.fieldLink RX2 48 "TallyLogs$Replica" "end" "I") (by decide +kernel)) (fun _ h9 => h9) rfl dX2_knownEnd_21 ?_
      refine lv_topi (fun x317 ex317 => ?_)
      refine lv_goto (tgt := 31) hx hb dX2_knownEnd_24 (by decide) ?_
      exact W.iret (v := x317) hx hb hr (fun t ht hW => ⟨x317, rfl, trivial, ht⟩) (fun _ h => by cases h) dX2_knownEnd_31
set_option maxHeartbeats 4000000 in
set_option maxRecDepth 100000 in
/-- Partition.raiseHw -/
theorem c_X2_raiseHw (l : Launch) (dC : Nat → ClassId) (dI : Nat → Nat → Nat) (cy : Nat → ClassId) (v : Nat → Nat) (L : List Nat) (K N : Nat → Nat) (T : Nat → Nat → Nat) (I : Nat → Nat → Int32) (Q : Nat → Nat → Option Nat) (J : Nat → Nat → Int32) (sz : Nat) (a : Nat)  (hC : CT v L K N T I Q) (ha : a ∈ L) (hk : K a = 2) : Met l yX2_raiseHw wsX2_raiseHw ({ frames := 2, cells := 0, slots := 0, locals := 43 }) (va_Pc [.ref a] (pW dC dI cy L (pF cy K N T I Q J) sz)) (va_Qv (fun d : (Nat → Nat → Int32) × (Nat → Nat → Option Nat) × (Nat → Nat → Int32) => CT v L K N T d.1 d.2.1 ∧ RS v I Q J d.1 d.2.1 d.2.2) (fun (d : (Nat → Nat → Int32) × (Nat → Nat → Option Nat) × (Nat → Nat → Int32)) t => va_P (dC, dI) vwCl (va_pl L (pF cy K N T d.1 d.2.1 d.2.2)) t.heap ∧ va_K (dC, dI) vwCl (pTy cy) t ∧ va_D (va_A (va_pl L (pF cy K N T I Q J)) sz) (va_pl L (pF cy K N T d.1 d.2.1 d.2.2))) (va_A (va_pl L (pF cy K N T I Q J)) sz)) 0 0 (va_A (va_pl L (pF cy K N T I Q J)) sz) := by
  refine Met.ofW (cc := cX2_raiseHw) (maxL := 4) (ret := none) (by decide) rfl ?_
  intro p e s m args below meth c s₁ B hml hv
  obtain ⟨rfl, hsz, ⟨hP, hK, hN⟩, hD0⟩ := hv
  have hx := B.exec
  have hb := B.bytes
  have hr := B.returns
  have hts := atoms_spec (ws := wsX2_raiseHw) B.pre
  have hown : s.vm.findClass RX2 = some m.cls := findClass_of_methodNamed B.named
  have hlocks := B.notSynchronized
  have hi2 : ∀ w ∈ wsX20, w ∈ wsX2_raiseHw := by decide +kernel
  have hi4 : ∀ w ∈ wsX40, w ∈ wsX2_raiseHw := by decide +kernel
  have hl := lv_entry ([.ref a]) (n := 4) (Nat.le_of_ble_eq_true rfl)
  rw [lg_entry_eq]
  generalize (lg_sl ([.ref a]) ++ List.replicate (4 - (lg_sl ([.ref a])).length) Slot.unset).toArray = ls at hl ⊢
  have hl : lv_has ls 4 [(0, .ref a)] := hl
  subst hsz
  have hD := hD0.self (sz := s.heap.size)
  generalize hAe : va_A (va_pl L (pF cy K N T I Q J)) s.heap.size = A at hD ⊢
  have hA : ∀ q : Nat, s.heap.size ≤ q → A q := fun q h => by rw [← hAe]; exact Or.inr h
  have hS : va_S A s.heap s.heap [] := va_S.rf
  have hR : RS v I Q J I Q J := RS.rf
  have hn28 := hN.1
  have hn30 := hN.2.1
  have hn37 := hN.2.2.1
  refine lv_aload_n hx hb dX2_raiseHw_0 rfl (lv_at hl 0 rfl) ?_
  obtain ⟨j319, hj319⟩ := pG_2 (cy := cy) (N := N) (T := T) (I := I) (Q := Q) (J := J) ha hk
  refine va_csq (W.runV (As := []) (rest := []) ⟨hx, hb, hml, hown, hts⟩ (c_X2_leading l dC dI cy v L K N T I Q J a  hC ha hk) (cwV 0 hts gX2_raiseHw_X2_leading rfl rfl rfl (by decide +kernel) ⟨Nat.le_of_ble_eq_true rfl, Nat.le_of_ble_eq_true rfl⟩) ⟨pb_blind, va_recv hK hP (ci := 2) (q0 := j319) rfl hj319, fun U hU hW => ⟨rfl, pb_pre hP hK hN hU hW⟩⟩ rfl rfl hl.1 rfl (lv_room (Nat.le_of_ble_eq_true rfl)) dX2_raiseHw_1 ⟨Nat.le_of_ble_eq_true rfl, Nat.le_of_ble_eq_true rfl⟩) (fun r318 hr318 => ?_)
  cases r318 with
  | none =>
    refine W.eq (g2 := F0 m 4 ls [.null]) rfl ?_
    refine lv_astore_nN (lv' := [(1, .null), (0, .ref a)]) hx hb dX2_raiseHw_4 rfl hl (by decide) rfl (fun ls hl => ?_)
    refine lv_aload_nN hx hb dX2_raiseHw_5 rfl (lv_at hl 0 rfl) ?_
    refine lv_ifnonnullN hx hb dX2_raiseHw_6 ?_
    exact W.vret hx hb hr (fun t ht hW => ⟨⟨(I, Q, J), rfl, ⟨hC, hR⟩, by rw [ht]; exact hP, va_K.moved hW.alike hK, hD⟩, hS.F ht⟩) hS.2.2 dX2_raiseHw_9
  | some b320 =>
    have hTb320 := hr318 b320 rfl
    refine W.eq (g2 := F0 m 4 ls [.ref b320]) rfl ?_
    refine lv_astore_n (lv' := [(1, .ref b320), (0, .ref a)]) hx hb dX2_raiseHw_4 rfl hl (by decide) rfl (fun ls hl => ?_)
    refine lv_aload_n hx hb dX2_raiseHw_5 rfl (lv_at hl 0 rfl) ?_
    refine lv_ifnonnull (tgt := 10) hx hb dX2_raiseHw_6 (by decide) ?_
    refine lv_aload_n hx hb dX2_raiseHw_10 rfl (lv_at hl 0 rfl) ?_
    obtain ⟨j321, hj321⟩ := pG_4 (cy := cy) (N := N) (T := T) (I := I) (Q := Q) (J := J) hTb320.1 hTb320.2
    refine va_get (D := (dC, dI)) (ci := 4) (v := .int (I b320 2)) (C := RX4) (T := TX4) (N := 7) hx hb hts hi4 hown hK hP j321 hj321 rfl 2 (by decide) (hts (.fieldLink RX2 48 "TallyLogs$Replica" "end" "I") (by decide +kernel)) (fun _ h9 => h9) rfl dX2_raiseHw_11 ?_
    refine lv_topi (fun x322 ex322 => ?_)
    refine lv_istore_n (lv' := [(2, .int x322), (1, .ref b320), (0, .ref a)]) hx hb dX2_raiseHw_14 rfl hl (by decide) rfl (fun ls hl => ?_)
    refine lv_iconst (v := 0) hx hb dX2_raiseHw_15 (by decide) ?_
    refine lv_istore_n (lv' := [(3, .int 0), (2, .int x322), (1, .ref b320), (0, .ref a)]) hx hb dX2_raiseHw_16 rfl hl (by decide) rfl (fun ls hl => ?_)
    refine wq_gen (fun Qz hQz => ?_)
    have hLP323 : ∀ (n : Nat) (y324 y325 : Int32) (Ia323 : Nat → Nat → Int32) (Qa323 : Nat → Nat → Option Nat) (Ja323 : Nat → Nat → Int32) (H : Heap) (locs : List Loc) (ls : Array Slot), (((5 : Int32)).toInt - y324.toInt).toNat < n → 0 ≤ y324.toInt → CT v L K N T Ia323 Qa323 → RS v I Q J Ia323 Qa323 Ja323 → va_P (dC, dI) vwCl (va_pl L (pF cy K N T Ia323 Qa323 Ja323)) H → va_D A (va_pl L (pF cy K N T Ia323 Qa323 Ja323)) → va_S A s.heap H locs → lv_has ls 4 [(3, .int y324), (2, .int y325), (1, .ref b320), (0, .ref a)] → W p l e (headSpec wsX2_raiseHw ({ frames := 2, cells := 0, slots := 0, locals := 43 })).room s m ([.ref a] : List Value).toArray below meth c H locs 0 0 Qz (F0 m 17 ls []) := by
      intro n
      induction n with
      | zero => intro y324 y325 Ia323 Qa323 Ja323 H locs ls hms; exact absurd hms (Nat.not_lt_zero _)
      | succ n ih =>
        intro y324 y325 Ia323 Qa323 Ja323 H locs ls hms hnn323 hC hR hP hD hS hl
        refine lv_iload_n hx hb dX2_raiseHw_17 rfl (lv_at hl 0 rfl) ?_
        refine lv_iconst (v := 5) hx hb dX2_raiseHw_18 (by decide) ?_
        refine lv_icmp_ge (tgt := 49) hx hb dX2_raiseHw_19 (by decide) (fun c326 => ?_) (fun c326 => ?_)
        · refine lv_aload_n hx hb dX2_raiseHw_49 rfl (lv_at hl 2 rfl) ?_
          refine lv_aload_n hx hb dX2_raiseHw_50 rfl (lv_at hl 2 rfl) ?_
          obtain ⟨j327, hj327⟩ := pG_4 (cy := cy) (N := N) (T := T) (I := Ia323) (Q := Qa323) (J := Ja323) hTb320.1 hTb320.2
          refine va_get (D := (dC, dI)) (ci := 4) (v := .int (Ia323 b320 3)) (C := RX4) (T := TX4) (N := 7) hx hb hts hi4 hown hK hP j327 hj327 rfl 3 (by decide) (hts (.fieldLink RX2 66 "TallyLogs$Replica" "hw" "I") (by decide +kernel)) (fun _ h9 => h9) rfl dX2_raiseHw_51 ?_
          refine lv_topi (fun x328 ex328 => ?_)
          refine lv_iload_n hx hb dX2_raiseHw_54 rfl (lv_at hl 1 rfl) ?_
          refine va_mmax hx hb (by rw [hml]; exact hl.1.symm) hown (hts (.methodLink RX2 69 Lib.Math.max.name) (by decide +kernel)) (hts (.static Lib.Math.max.name) (by decide +kernel)) (hts (.initialized "java/lang/Math") (by decide +kernel)) (hts _ (List.mem_of_getElem? (i := 10) rfl)) (Nat.le_of_ble_eq_true rfl) (Nat.le_of_ble_eq_true rfl) (Nat.le_of_ble_eq_true rfl) (Nat.le_of_ble_eq_true rfl) dX2_raiseHw_55 ?_
          refine lv_topi (fun z329 ez329 => ?_)
          obtain ⟨j330, hj330⟩ := pG_4 (cy := cy) (N := N) (T := T) (I := Ia323) (Q := Qa323) (J := Ja323) hTb320.1 hTb320.2
          have hDo := hD
          refine va_put (D := (dC, dI)) (ci := 4) (v := .int z329) (ty := .int) (C := RX4) (T := TX4) (N := 7) hx hb hts hi4 tyX4 tyX4_ok nmX4 hown hK hP hD hS j330 hj330 rfl 3 (by decide) (hts (.fieldLink RX2 66 "TallyLogs$Replica" "hw" "I") (by decide +kernel)) (fun _ h9 => h9) rfl (by decide +kernel) rfl rfl (Nat.le_of_ble_eq_true rfl) dX2_raiseHw_58 (fun H locs hP hD hS => ?_)
          have hP := Eq.mp (congrArg (fun w => va_P (dC, dI) vwCl w H) (pP_4_3 (x := z329) hDo hTb320.1 hTb320.2 hj330)) hP
          obtain ⟨I331, eI331⟩ : ∃ z, z = p2 Ia323 b320 3 z329 := ⟨_, rfl⟩
          rw [← eI331] at hP
          have hR : RS v I Q J I331 Qa323 Ja323 := by rw [eI331]; exact hR.pi hC (by rw [hTb320.2]; decide)
          have hC : CT v L K N T I331 Qa323 := by rw [eI331]; exact hC.pi (by rw [hTb320.2]; decide)
          have hD : va_D A (va_pl L (pF cy K N T I331 Qa323 Ja323)) := pD hDo
          rw [hQz]
          exact W.vret hx hb hr (fun t ht hW => ⟨⟨(I331, Qa323, Ja323), rfl, ⟨hC, hR⟩, by rw [ht]; exact hP, va_K.moved hW.alike hK, hD⟩, hS.F ht⟩) hS.2.2 dX2_raiseHw_61
        · refine lv_aload_n hx hb dX2_raiseHw_22 rfl (lv_at hl 3 rfl) ?_
          obtain ⟨j332, hj332⟩ := pG_2 (cy := cy) (N := N) (T := T) (I := Ia323) (Q := Qa323) (J := Ja323) ha hk
          refine va_get (D := (dC, dI)) (ci := 2) (v := .int (Ia323 a 5)) (C := RX2) (T := TX2) (N := 6) hx hb hts hi2 hown hK hP j332 hj332 rfl 5 (by decide) (hts (.fieldLink RX2 27 "TallyLogs$Partition" "inStep" "I") (by decide +kernel)) (fun _ h9 => h9) rfl dX2_raiseHw_23 ?_
          refine lv_topi (fun x333 ex333 => ?_)
          refine lv_iload_n hx hb dX2_raiseHw_26 rfl (lv_at hl 0 rfl) ?_
          refine vp_callSi (va_Run.run (va_runSN (As := [.int x333, .int y324]) (rest := []) ⟨hx, hb, hml, hown, hts⟩ (c_X5_contains l x333 y324) ⟨va_cnB 2 hts gX2_raiseHw_X5_contains_n37 rfl rfl rfl hn37 (hts (.initialized RX5) (by decide +kernel)) (by decide +kernel) ⟨Nat.le_of_ble_eq_true rfl, Nat.le_of_ble_eq_true rfl⟩, hts (.static yX5_contains) (by decide +kernel), trivial⟩ preEq rfl rfl hl.1 rfl (lv_room (Nat.le_of_ble_eq_true rfl)) dX2_raiseHw_27 ⟨Nat.le_of_ble_eq_true rfl, Nat.le_of_ble_eq_true rfl⟩)) (fun r334 hr334 => ?_)
          refine lv_if_eq (tgt := 43) hx hb dX2_raiseHw_30 (by decide) (fun c335 => ?_) (fun c335 => ?_)
          · obtain ⟨v336, ev336⟩ : ∃ y : Int32, y = y324 + Int32.ofInt 1 := ⟨_, rfl⟩
            refine lv_iinc (v := v336) (lv' := [(3, .int v336), (2, .int y325), (1, .ref b320), (0, .ref a)]) hx hb dX2_raiseHw_43 hl (k := 0) rfl ev336.symm (by decide) rfl (fun ls hl => ?_)
            refine lv_goto (tgt := 17) hx hb dX2_raiseHw_46 (by decide) ?_
            exact ih _ _ _ _ _ _ _ _ (by have kc := c326; simp only [xk_le, xk_lt] at kc; have h9 := xinc (x := y324) (y := (5 : Int32)) (by rw [xk_lt]; omega); rw [ev336, show y324 + Int32.ofInt 1 = y324 + 1 from rfl, h9]; omega) (by have kc := c326; simp only [xk_le, xk_lt] at kc; have h9 := xinc (x := y324) (y := (5 : Int32)) (by rw [xk_lt]; omega); rw [ev336, show y324 + Int32.ofInt 1 = y324 + 1 from rfl, h9]; omega) hC hR hP hD hS (lv_sub hl [0, 1, 2, 3] rfl)
          · refine lv_iload_n hx hb dX2_raiseHw_33 rfl (lv_at hl 1 rfl) ?_
            refine lv_aload_n hx hb dX2_raiseHw_34 rfl (lv_at hl 3 rfl) ?_
            refine lv_iload_n hx hb dX2_raiseHw_35 rfl (lv_at hl 0 rfl) ?_
            obtain ⟨j338, hj338⟩ := pG_2 (cy := cy) (N := N) (T := T) (I := Ia323) (Q := Qa323) (J := Ja323) ha hk
            refine vp_callSi (W.runV (As := [.int y324]) (rest := [.int y325]) ⟨hx, hb, hml, hown, hts⟩ (c_X2_knownEnd l dC dI cy v L K N T Ia323 Qa323 Ja323 a y324 hC ha hk) (cwV 1 hts gX2_raiseHw_X2_knownEnd rfl rfl rfl (by decide +kernel) ⟨Nat.le_of_ble_eq_true rfl, Nat.le_of_ble_eq_true rfl⟩) ⟨pb_blind, va_recv hK hP (ci := 2) (q0 := j338) rfl hj338, fun U hU hW => ⟨rfl, pb_pre hP hK hN hU hW⟩⟩ rfl rfl hl.1 rfl (lv_room (Nat.le_of_ble_eq_true rfl)) dX2_raiseHw_36 ⟨Nat.le_of_ble_eq_true rfl, Nat.le_of_ble_eq_true rfl⟩) (fun r337 hr337 => ?_)
            refine va_mmin hx hb (by rw [hml]; exact hl.1.symm) hown (hts (.methodLink RX2 61 Lib.Math.min.name) (by decide +kernel)) (hts (.static Lib.Math.min.name) (by decide +kernel)) (hts (.initialized "java/lang/Math") (by decide +kernel)) (hts _ (List.mem_of_getElem? (i := 6) rfl)) (Nat.le_of_ble_eq_true rfl) (Nat.le_of_ble_eq_true rfl) (Nat.le_of_ble_eq_true rfl) (Nat.le_of_ble_eq_true rfl) dX2_raiseHw_39 ?_
            refine lv_topi (fun z339 ez339 => ?_)
            refine lv_istore_n (lv' := [(2, .int z339), (3, .int y324), (1, .ref b320), (0, .ref a)]) hx hb dX2_raiseHw_42 rfl hl (by decide) rfl (fun ls hl => ?_)
            obtain ⟨v340, ev340⟩ : ∃ y : Int32, y = y324 + Int32.ofInt 1 := ⟨_, rfl⟩
            refine lv_iinc (v := v340) (lv' := [(3, .int v340), (2, .int z339), (1, .ref b320), (0, .ref a)]) hx hb dX2_raiseHw_43 hl (k := 1) rfl ev340.symm (by decide) rfl (fun ls hl => ?_)
            refine lv_goto (tgt := 17) hx hb dX2_raiseHw_46 (by decide) ?_
            exact ih _ _ _ _ _ _ _ _ (by have kc := c326; simp only [xk_le, xk_lt] at kc; have h9 := xinc (x := y324) (y := (5 : Int32)) (by rw [xk_lt]; omega); rw [ev340, show y324 + Int32.ofInt 1 = y324 + 1 from rfl, h9]; omega) (by have kc := c326; simp only [xk_le, xk_lt] at kc; have h9 := xinc (x := y324) (y := (5 : Int32)) (by rw [xk_lt]; omega); rw [ev340, show y324 + Int32.ofInt 1 = y324 + 1 from rfl, h9]; omega) hC hR hP hD hS (lv_sub hl [0, 1, 2, 3] rfl)
    exact hLP323 _ _ _ _ _ _ _ _ _ (Nat.lt_succ_self _) (by decide) hC hR hP hD hS (lv_sub hl [0, 1, 2, 3] rfl)
