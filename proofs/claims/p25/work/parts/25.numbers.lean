/-- the answer of producerAt, groupAt: null, or the cell of that number -/
def pNo (v : Nat → Nat) (base n : Nat) (k : Int32) (r : Option Nat) : Prop := (¬ (0 ≤ k.toInt ∧ k.toInt < n) ∧ r = none) ∨ ∃ j : Nat, j < n ∧ k = nI j ∧ r = some (v (base + j))
set_option maxHeartbeats 4000000 in
set_option maxRecDepth 100000 in
/-- producerAt(k) -/
theorem c_X5_producerAt (l : Launch) (dC : Nat → ClassId) (dI : Nat → Nat → Nat) (cy : Nat → ClassId) (v : Nat → Nat) (L : List Nat) (K N : Nat → Nat) (T : Nat → Nat → Nat) (I : Nat → Nat → Int32) (Q : Nat → Nat → Option Nat) (J : Nat → Nat → Int32) (xk : Int32) (hC : CT v L K N T I Q) : Met l yX5_producerAt wsX5_producerAt ({ frames := 0, cells := 0, slots := 0, locals := 0 }) (va_Pc [.ref (v 0), .int xk] (pB dC dI cy L (pF cy K N T I Q J))) (va_Sq (fun r => pNo v 4 6 xk r)) 0 0 (fun _ => False) := by
  refine Met.ofW (cc := cX5_producerAt) (maxL := 2) (ret := (some (.object "TallyLogs$Producer"))) (by decide) rfl ?_
  intro p e s m args below meth c s₁ B hml hv
  obtain ⟨rfl, hP, hK, hN⟩ := hv
  have hx := B.exec
  have hb := B.bytes
  have hr := B.returns
  have hts := atoms_spec (ws := wsX5_producerAt) B.pre
  have hown : s.vm.findClass RX5 = some m.cls := findClass_of_methodNamed B.named
  have hlocks := B.notSynchronized
  have hi5 : ∀ w ∈ wsX50, w ∈ wsX5_producerAt := by decide +kernel
  have hl := lv_entry ([.ref (v 0), .int xk]) (n := 2) (Nat.le_of_ble_eq_true rfl)
  rw [lg_entry_eq]
  generalize (lg_sl ([.ref (v 0), .int xk]) ++ List.replicate (2 - (lg_sl ([.ref (v 0), .int xk])).length) Slot.unset).toArray = ls at hl ⊢
  have hl : lv_has ls 2 [(0, .ref (v 0)), (1, .int xk)] := hl
  have hn28 := hN.1
  have hn30 := hN.2.1
  have hn37 := hN.2.2.1
  refine lv_iload_n hx hb dX5_producerAt_0 rfl (lv_at hl 1 rfl) ?_
  refine lv_if_lt (tgt := 10) hx hb dX5_producerAt_1 (by decide) (fun c820 => ?_) (fun c820 => ?_)
  · refine lv_null hx hb dX5_producerAt_10 ?_
    refine lv_goto (tgt := 20) hx hb dX5_producerAt_11 (by decide) ?_
    exact W.aret (v := .null) hx hb hr (Or.inl ⟨_, rfl⟩) (Or.inl rfl) (fun t ht hW => ⟨none, rfl, Or.inl ⟨(by have kc820 := c820; simp only [xk_lt, xk_le, xk_0, xk_1, xk_2, xk_3, xk_4, xk_5, xk_6, xk_7, xk_8, xk_50] at kc820; omega), rfl⟩, ht⟩) (fun _ h => by cases h) dX5_producerAt_20
  · refine lv_iload_n hx hb dX5_producerAt_4 rfl (lv_at hl 1 rfl) ?_
    refine lv_bipush (v := 6) hx hb dX5_producerAt_5 (by decide) ?_
    refine lv_icmp_lt (tgt := 14) hx hb dX5_producerAt_7 (by decide) (fun c821 => ?_) (fun c821 => ?_)
    · refine lv_aload_n hx hb dX5_producerAt_14 rfl (lv_at hl 0 rfl) ?_
      obtain ⟨j822, hj822⟩ := pG_5 (cy := cy) (N := N) (T := T) (I := I) (Q := Q) (J := J) (hC.at 0 (by decide)) (hC.k 0 (by decide) rfl)
      refine va_get (D := (dC, dI)) (ci := 5) (v := .ref (T (v 0) 1)) (C := RX5) (T := TX5) (N := 6) hx hb hts hi5 hown hK hP j822 hj822 rfl 1 (by decide) (hts (.fieldLink RX5 17 "TallyLogs" "producers" "[LTallyLogs$Producer;") (by decide +kernel)) (fun _ h9 => h9) rfl dX5_producerAt_15 ?_
      refine W.eq (g2 := F0 m 18 ls [.ref (v 2)]) (by rw [hC.1.2.2.1.2.1]) ?_
      have hin824 : vp_in xk 6 := xin_of (by have kc820 := c820; have kc821 := c821; simp only [xk_lt, xk_le, xk_0, xk_1, xk_2, xk_3, xk_4, xk_5, xk_6, xk_7, xk_8, xk_50] at kc820 kc821; omega) (by have kc820 := c820; have kc821 := c821; simp only [xk_lt, xk_le, xk_0, xk_1, xk_2, xk_3, xk_4, xk_5, xk_6, xk_7, xk_8, xk_50] at kc820 kc821; omega)
      refine lv_iload_n hx hb dX5_producerAt_18 rfl (lv_at hl 1 rfl) ?_
      obtain ⟨j825, hj825⟩ := pG_11 (cy := cy) (N := N) (T := T) (I := I) (Q := Q) (J := J) (hC.at 2 (by decide)) (hC.k 2 (by decide) rfl)
      refine va_aldq hx hb hK hP j825 4 hj825 rfl hin824 dX5_producerAt_19 ?_
      obtain ⟨j826, hj826, ej826⟩ := vp_in_of hin824 (by decide)
      refine W.eq (g2 := F0 m 20 ls [.ref (v (4 + j826))]) (by rw [ej826, nI_clamp (by omega), hC.2.1.1 j826 hj826]; rfl) ?_
      exact W.aret (v := .ref (v (4 + j826))) hx hb hr (Or.inl ⟨_, rfl⟩) (Or.inr ⟨_, rfl⟩) (fun t ht hW => ⟨some (v (4 + j826)), rfl, Or.inr ⟨j826, hj826, ej826, rfl⟩, ht⟩) (fun _ h => by cases h) dX5_producerAt_20
    · refine lv_null hx hb dX5_producerAt_10 ?_
      refine lv_goto (tgt := 20) hx hb dX5_producerAt_11 (by decide) ?_
      exact W.aret (v := .null) hx hb hr (Or.inl ⟨_, rfl⟩) (Or.inl rfl) (fun t ht hW => ⟨none, rfl, Or.inl ⟨(by have kc820 := c820; have kc821 := c821; simp only [xk_lt, xk_le, xk_0, xk_1, xk_2, xk_3, xk_4, xk_5, xk_6, xk_7, xk_8, xk_50] at kc820 kc821; omega), rfl⟩, ht⟩) (fun _ h => by cases h) dX5_producerAt_20
set_option maxHeartbeats 4000000 in
set_option maxRecDepth 100000 in
/-- groupAt(group) -/
theorem c_X5_groupAt (l : Launch) (dC : Nat → ClassId) (dI : Nat → Nat → Nat) (cy : Nat → ClassId) (v : Nat → Nat) (L : List Nat) (K N : Nat → Nat) (T : Nat → Nat → Nat) (I : Nat → Nat → Int32) (Q : Nat → Nat → Option Nat) (J : Nat → Nat → Int32) (xk : Int32) (hC : CT v L K N T I Q) : Met l yX5_groupAt wsX5_groupAt ({ frames := 0, cells := 0, slots := 0, locals := 0 }) (va_Pc [.ref (v 0), .int xk] (pB dC dI cy L (pF cy K N T I Q J))) (va_Sq (fun r => pNo v 10 4 xk r)) 0 0 (fun _ => False) := by
  refine Met.ofW (cc := cX5_groupAt) (maxL := 2) (ret := (some (.object "TallyLogs$Group"))) (by decide) rfl ?_
  intro p e s m args below meth c s₁ B hml hv
  obtain ⟨rfl, hP, hK, hN⟩ := hv
  have hx := B.exec
  have hb := B.bytes
  have hr := B.returns
  have hts := atoms_spec (ws := wsX5_groupAt) B.pre
  have hown : s.vm.findClass RX5 = some m.cls := findClass_of_methodNamed B.named
  have hlocks := B.notSynchronized
  have hi5 : ∀ w ∈ wsX50, w ∈ wsX5_groupAt := by decide +kernel
  have hl := lv_entry ([.ref (v 0), .int xk]) (n := 2) (Nat.le_of_ble_eq_true rfl)
  rw [lg_entry_eq]
  generalize (lg_sl ([.ref (v 0), .int xk]) ++ List.replicate (2 - (lg_sl ([.ref (v 0), .int xk])).length) Slot.unset).toArray = ls at hl ⊢
  have hl : lv_has ls 2 [(0, .ref (v 0)), (1, .int xk)] := hl
  have hn28 := hN.1
  have hn30 := hN.2.1
  have hn37 := hN.2.2.1
  refine lv_iload_n hx hb dX5_groupAt_0 rfl (lv_at hl 1 rfl) ?_
  refine lv_if_lt (tgt := 9) hx hb dX5_groupAt_1 (by decide) (fun c827 => ?_) (fun c827 => ?_)
  · refine lv_null hx hb dX5_groupAt_9 ?_
    refine lv_goto (tgt := 19) hx hb dX5_groupAt_10 (by decide) ?_
    exact W.aret (v := .null) hx hb hr (Or.inl ⟨_, rfl⟩) (Or.inl rfl) (fun t ht hW => ⟨none, rfl, Or.inl ⟨(by have kc827 := c827; simp only [xk_lt, xk_le, xk_0, xk_1, xk_2, xk_3, xk_4, xk_5, xk_6, xk_7, xk_8, xk_50] at kc827; omega), rfl⟩, ht⟩) (fun _ h => by cases h) dX5_groupAt_19
  · refine lv_iload_n hx hb dX5_groupAt_4 rfl (lv_at hl 1 rfl) ?_
    refine lv_iconst (v := 4) hx hb dX5_groupAt_5 (by decide) ?_
    refine lv_icmp_lt (tgt := 13) hx hb dX5_groupAt_6 (by decide) (fun c828 => ?_) (fun c828 => ?_)
    · refine lv_aload_n hx hb dX5_groupAt_13 rfl (lv_at hl 0 rfl) ?_
      obtain ⟨j829, hj829⟩ := pG_5 (cy := cy) (N := N) (T := T) (I := I) (Q := Q) (J := J) (hC.at 0 (by decide)) (hC.k 0 (by decide) rfl)
      refine va_get (D := (dC, dI)) (ci := 5) (v := .ref (T (v 0) 2)) (C := RX5) (T := TX5) (N := 6) hx hb hts hi5 hown hK hP j829 hj829 rfl 2 (by decide) (hts (.fieldLink RX5 23 "TallyLogs" "groups" "[LTallyLogs$Group;") (by decide +kernel)) (fun _ h9 => h9) rfl dX5_groupAt_14 ?_
      refine W.eq (g2 := F0 m 17 ls [.ref (v 3)]) (by rw [hC.1.2.2.1.2.2]) ?_
      refine lv_iload_n hx hb dX5_groupAt_17 rfl (lv_at hl 1 rfl) ?_
      have hin831 : vp_in xk 4 := xin_of (by have kc827 := c827; have kc828 := c828; simp only [xk_lt, xk_le, xk_0, xk_1, xk_2, xk_3, xk_4, xk_5, xk_6, xk_7, xk_8, xk_50] at kc827 kc828; omega) (by have kc827 := c827; have kc828 := c828; simp only [xk_lt, xk_le, xk_0, xk_1, xk_2, xk_3, xk_4, xk_5, xk_6, xk_7, xk_8, xk_50] at kc827 kc828; omega)
      obtain ⟨j832, hj832⟩ := pG_9 (cy := cy) (N := N) (T := T) (I := I) (Q := Q) (J := J) (hC.at 3 (by decide)) (hC.k 3 (by decide) rfl)
      refine va_aldq hx hb hK hP j832 2 hj832 rfl hin831 dX5_groupAt_18 ?_
      obtain ⟨j833, hj833, ej833⟩ := vp_in_of hin831 (by decide)
      refine W.eq (g2 := F0 m 19 ls [.ref (v (10 + j833))]) (by rw [ej833, nI_clamp (by omega), hC.2.1.2 j833 hj833]; rfl) ?_
      exact W.aret (v := .ref (v (10 + j833))) hx hb hr (Or.inl ⟨_, rfl⟩) (Or.inr ⟨_, rfl⟩) (fun t ht hW => ⟨some (v (10 + j833)), rfl, Or.inr ⟨j833, hj833, ej833, rfl⟩, ht⟩) (fun _ h => by cases h) dX5_groupAt_19
    · refine lv_null hx hb dX5_groupAt_9 ?_
      refine lv_goto (tgt := 19) hx hb dX5_groupAt_10 (by decide) ?_
      exact W.aret (v := .null) hx hb hr (Or.inl ⟨_, rfl⟩) (Or.inl rfl) (fun t ht hW => ⟨none, rfl, Or.inl ⟨(by have kc827 := c827; have kc828 := c828; simp only [xk_lt, xk_le, xk_0, xk_1, xk_2, xk_3, xk_4, xk_5, xk_6, xk_7, xk_8, xk_50] at kc827 kc828; omega), rfl⟩, ht⟩) (fun _ h => by cases h) dX5_groupAt_19
set_option maxHeartbeats 4000000 in
set_option maxRecDepth 100000 in
/-- count -/
theorem c_X5_count (l : Launch) (dC : Nat → ClassId) (dI : Nat → Nat → Nat) (cy : Nat → ClassId) (v : Nat → Nat) (L : List Nat) (K N : Nat → Nat) (T : Nat → Nat → Nat) (I : Nat → Nat → Int32) (Q : Nat → Nat → Option Nat) (J : Nat → Nat → Int32) (wh : Int32) (hC : CT v L K N T I Q) : Met l yX5_count wsX5_count ({ frames := 1, cells := 0, slots := 0, locals := 21 }) (va_Pc [.ref (v 0), .int wh] (pB dC dI cy L (pF cy K N T I Q J))) (vp_Si (fun r => True)) 0 0 (fun _ => False) := by
  refine Met.ofW (cc := cX5_count) (maxL := 3) (ret := (some .int)) (by decide) rfl ?_
  intro p e s m args below meth c s₁ B hml hv
  obtain ⟨rfl, hP, hK, hN⟩ := hv
  have hx := B.exec
  have hb := B.bytes
  have hr := B.returns
  have hts := atoms_spec (ws := wsX5_count) B.pre
  have hown : s.vm.findClass RX5 = some m.cls := findClass_of_methodNamed B.named
  have hlocks := B.notSynchronized
  have hi5 : ∀ w ∈ wsX50, w ∈ wsX5_count := by decide +kernel
  have hi3 : ∀ w ∈ wsX30, w ∈ wsX5_count := by decide +kernel
  have hl := lv_entry ([.ref (v 0), .int wh]) (n := 3) (Nat.le_of_ble_eq_true rfl)
  rw [lg_entry_eq]
  generalize (lg_sl ([.ref (v 0), .int wh]) ++ List.replicate (3 - (lg_sl ([.ref (v 0), .int wh])).length) Slot.unset).toArray = ls at hl ⊢
  have hl : lv_has ls 3 [(0, .ref (v 0)), (1, .int wh)] := hl
  have hn28 := hN.1
  have hn30 := hN.2.1
  have hn37 := hN.2.2.1
  refine lv_iload_n hx hb dX5_count_0 rfl (lv_at hl 1 rfl) ?_
  refine lv_if_ne (tgt := 9) hx hb dX5_count_1 (by decide) (fun c834 => ?_) (fun c834 => ?_)
  · refine lv_iload_n hx hb dX5_count_9 rfl (lv_at hl 1 rfl) ?_
    refine lv_iconst (v := 1) hx hb dX5_count_10 (by decide) ?_
    refine lv_icmp_ne (tgt := 19) hx hb dX5_count_11 (by decide) (fun c835 => ?_) (fun c835 => ?_)
    · refine lv_iload_n hx hb dX5_count_19 rfl (lv_at hl 1 rfl) ?_
      refine lv_iconst (v := 2) hx hb dX5_count_20 (by decide) ?_
      refine lv_icmp_lt (tgt := 30) hx hb dX5_count_21 (by decide) (fun c836 => ?_) (fun c836 => ?_)
      · refine lv_iconst (v := (-1)) hx hb dX5_count_30 (by decide) ?_
        exact W.iret (v := (-1)) hx hb hr (fun t ht hW => ⟨(-1), rfl, trivial, ht⟩) (fun _ h => by cases h) dX5_count_31
      · refine lv_iload_n hx hb dX5_count_24 rfl (lv_at hl 1 rfl) ?_
        refine lv_bipush (v := 8) hx hb dX5_count_25 (by decide) ?_
        refine lv_icmp_lt (tgt := 32) hx hb dX5_count_27 (by decide) (fun c837 => ?_) (fun c837 => ?_)
        · refine lv_aload_n hx hb dX5_count_32 rfl (lv_at hl 0 rfl) ?_
          refine lv_iload_n hx hb dX5_count_33 rfl (lv_at hl 1 rfl) ?_
          refine lv_iconst (v := 2) hx hb dX5_count_34 (by decide) ?_
          refine lv_isub hx hb dX5_count_35 ?_
          refine lv_topi (fun v838 ev838 => ?_)
          obtain ⟨j840, hj840⟩ := pG_5 (cy := cy) (N := N) (T := T) (I := I) (Q := Q) (J := J) (hC.at 0 (by decide)) (hC.k 0 (by decide) rfl)
          refine va_csq (W.runV (As := [.int v838]) (rest := []) ⟨hx, hb, hml, hown, hts⟩ (c_X5_producerAt l dC dI cy v L K N T I Q J  v838 hC) (cwV 1 hts gX5_count_X5_producerAt rfl rfl rfl (by decide +kernel) ⟨Nat.le_of_ble_eq_true rfl, Nat.le_of_ble_eq_true rfl⟩) ⟨pb_blind, va_recv hK hP (ci := 5) (q0 := j840) rfl hj840, fun U hU hW => ⟨rfl, pb_pre hP hK hN hU hW⟩⟩ rfl rfl hl.1 rfl (lv_room (Nat.le_of_ble_eq_true rfl)) dX5_count_36 ⟨Nat.le_of_ble_eq_true rfl, Nat.le_of_ble_eq_true rfl⟩) (fun r839 hr839 => ?_)
          rcases hr839 with ⟨hn841, rfl⟩ | ⟨j841, hj841, hn841, rfl⟩
          · refine W.eq (g2 := F0 m 39 ls [.null]) rfl ?_
            refine lv_astore_nN (lv' := [(2, .null), (0, .ref (v 0)), (1, .int wh)]) hx hb dX5_count_39 rfl hl (by decide) rfl (fun ls hl => ?_)
            refine lv_aload_nN hx hb dX5_count_40 rfl (lv_at hl 0 rfl) ?_
            refine lv_ifnonnullN hx hb dX5_count_41 ?_
            refine lv_iconst (v := (-1)) hx hb dX5_count_44 (by decide) ?_
            refine lv_goto (tgt := 52) hx hb dX5_count_45 (by decide) ?_
            exact W.iret (v := (-1)) hx hb hr (fun t ht hW => ⟨(-1), rfl, trivial, ht⟩) (fun _ h => by cases h) dX5_count_52
          · refine W.eq (g2 := F0 m 39 ls [.ref (v (4 + j841))]) rfl ?_
            refine lv_astore_n (lv' := [(2, .ref (v (4 + j841))), (0, .ref (v 0)), (1, .int wh)]) hx hb dX5_count_39 rfl hl (by decide) rfl (fun ls hl => ?_)
            refine lv_aload_n hx hb dX5_count_40 rfl (lv_at hl 0 rfl) ?_
            refine lv_ifnonnull (tgt := 48) hx hb dX5_count_41 (by decide) ?_
            refine lv_aload_n hx hb dX5_count_48 rfl (lv_at hl 0 rfl) ?_
            obtain ⟨j842, hj842⟩ := pG_3 (cy := cy) (N := N) (T := T) (I := I) (Q := Q) (J := J) (hC.kp hj841).1 (hC.kp hj841).2
            refine va_get (D := (dC, dI)) (ci := 3) (v := .int (I (v (4 + j841)) 2)) (C := RX3) (T := TX3) (N := 6) hx hb hts hi3 hown hK hP j842 hj842 rfl 2 (by decide) (hts (.fieldLink RX5 78 "TallyLogs$Producer" "mode" "I") (by decide +kernel)) (fun _ h9 => h9) rfl dX5_count_49 ?_
            refine lv_topi (fun x843 ex843 => ?_)
            exact W.iret (v := x843) hx hb hr (fun t ht hW => ⟨x843, rfl, trivial, ht⟩) (fun _ h => by cases h) dX5_count_52
        · refine lv_iconst (v := (-1)) hx hb dX5_count_30 (by decide) ?_
          exact W.iret (v := (-1)) hx hb hr (fun t ht hW => ⟨(-1), rfl, trivial, ht⟩) (fun _ h => by cases h) dX5_count_31
    · refine lv_aload_n hx hb dX5_count_14 rfl (lv_at hl 0 rfl) ?_
      obtain ⟨j844, hj844⟩ := pG_5 (cy := cy) (N := N) (T := T) (I := I) (Q := Q) (J := J) (hC.at 0 (by decide)) (hC.k 0 (by decide) rfl)
      refine va_get (D := (dC, dI)) (ci := 5) (v := .int (I (v 0) 3)) (C := RX5) (T := TX5) (N := 6) hx hb hts hi5 hown hK hP j844 hj844 rfl 3 (by decide) (hts (.fieldLink RX5 27 "TallyLogs" "up" "I") (by decide +kernel)) (fun _ h9 => h9) rfl dX5_count_15 ?_
      refine lv_topi (fun x845 ex845 => ?_)
      exact W.iret (v := x845) hx hb hr (fun t ht hW => ⟨x845, rfl, trivial, ht⟩) (fun _ h => by cases h) dX5_count_18
  · refine lv_aload_n hx hb dX5_count_4 rfl (lv_at hl 0 rfl) ?_
    obtain ⟨j846, hj846⟩ := pG_5 (cy := cy) (N := N) (T := T) (I := I) (Q := Q) (J := J) (hC.at 0 (by decide)) (hC.k 0 (by decide) rfl)
    refine va_get (D := (dC, dI)) (ci := 5) (v := .int (I (v 0) 4)) (C := RX5) (T := TX5) (N := 6) hx hb hts hi5 hown hK hP j846 hj846 rfl 4 (by decide) (hts (.fieldLink RX5 31 "TallyLogs" "now" "I") (by decide +kernel)) (fun _ h9 => h9) rfl dX5_count_5 ?_
    refine lv_topi (fun x847 ex847 => ?_)
    exact W.iret (v := x847) hx hb hr (fun t ht hW => ⟨x847, rfl, trivial, ht⟩) (fun _ h => by cases h) dX5_count_8
