set_option maxHeartbeats 4000000 in
set_option maxRecDepth 100000 in
/-- contains(bits, i) -/
theorem c_X5_contains (l : Launch) (bi : Int32) (ix : Int32) : Met l yX5_contains wsX5_contains ({ frames := 0, cells := 0, slots := 0, locals := 0 }) (fun v _ => v = ([.int bi, .int ix] : List Value).toArray) (vp_Si (fun r => r = sp_cn bi ix)) 0 0 (fun _ => False) := by
  refine Met.ofW (cc := cX5_contains) (maxL := 2) (ret := (some .boolean)) (by decide) rfl ?_
  intro p e s m args below meth c s₁ B hml hv
  subst hv
  have hx := B.exec
  have hb := B.bytes
  have hr := B.returns
  have hts := atoms_spec (ws := wsX5_contains) B.pre
  have hown : s.vm.findClass RX5 = some m.cls := findClass_of_methodNamed B.named
  have hlocks := B.notSynchronized
  have hl := lv_entry ([.int bi, .int ix]) (n := 2) (Nat.le_of_ble_eq_true rfl)
  rw [lg_entry_eq]
  generalize (lg_sl ([.int bi, .int ix]) ++ List.replicate (2 - (lg_sl ([.int bi, .int ix])).length) Slot.unset).toArray = ls at hl ⊢
  have hl : lv_has ls 2 [(0, .int bi), (1, .int ix)] := hl
  refine lv_iload_n hx hb dX5_contains_0 rfl (lv_at hl 1 rfl) ?_
  refine lv_if_lt (tgt := 23) hx hb dX5_contains_1 (by decide) (fun c1 => ?_) (fun c1 => ?_)
  · refine lv_iconst (v := 0) hx hb dX5_contains_23 (by decide) ?_
    exact W.zret (v := 0) hx hb hr (by decide) (fun t ht hW => ⟨0, rfl, by rw [sp_cn, if_pos c1], ht⟩) (fun _ h => by cases h) dX5_contains_24
  · refine lv_iload_n hx hb dX5_contains_4 rfl (lv_at hl 1 rfl) ?_
    refine lv_bipush (v := 8) hx hb dX5_contains_5 (by decide) ?_
    refine lv_icmp_ge (tgt := 23) hx hb dX5_contains_7 (by decide) (fun c2 => ?_) (fun c2 => ?_)
    · refine lv_iconst (v := 0) hx hb dX5_contains_23 (by decide) ?_
      exact W.zret (v := 0) hx hb hr (by decide) (fun t ht hW => ⟨0, rfl, by rw [sp_cn, if_neg c1, if_pos c2], ht⟩) (fun _ h => by cases h) dX5_contains_24
    · refine lv_iload_n hx hb dX5_contains_10 rfl (lv_at hl 0 rfl) ?_
      refine lv_iload_n hx hb dX5_contains_11 rfl (lv_at hl 1 rfl) ?_
      refine lv_ishr hx hb dX5_contains_12 ?_
      refine lv_topi (fun v3 ev3 => ?_)
      refine lv_iconst (v := 1) hx hb dX5_contains_13 (by decide) ?_
      refine lv_iand hx hb dX5_contains_14 ?_
      refine lv_topi (fun v4 ev4 => ?_)
      refine lv_iconst (v := 1) hx hb dX5_contains_15 (by decide) ?_
      refine lv_icmp_ne (tgt := 23) hx hb dX5_contains_16 (by decide) (fun c5 => ?_) (fun c5 => ?_)
      · refine lv_iconst (v := 0) hx hb dX5_contains_23 (by decide) ?_
        exact W.zret (v := 0) hx hb hr (by decide) (fun t ht hW => ⟨0, rfl, by subst ev3; subst ev4; rw [sp_cn, if_neg c1, if_neg c2, if_neg c5], ht⟩) (fun _ h => by cases h) dX5_contains_24
      · refine lv_iconst (v := 1) hx hb dX5_contains_19 (by decide) ?_
        refine lv_goto (tgt := 24) hx hb dX5_contains_20 (by decide) ?_
        exact W.zret (v := 1) hx hb hr (by decide) (fun t ht hW => ⟨1, rfl, by subst ev3; subst ev4; rw [sp_cn, if_neg c1, if_neg c2, if_pos c5], ht⟩) (fun _ h => by cases h) dX5_contains_24
set_option maxHeartbeats 4000000 in
set_option maxRecDepth 100000 in
/-- generationOf(handle) -/
theorem c_X5_generationOf (l : Launch) (hd : Int32) : Met l yX5_generationOf wsX5_generationOf ({ frames := 0, cells := 0, slots := 0, locals := 0 }) (fun v _ => v = ([.int hd] : List Value).toArray) (vp_Si (fun r => r = hd / 8)) 0 0 (fun _ => False) := by
  refine Met.ofW (cc := cX5_generationOf) (maxL := 1) (ret := (some .int)) (by decide) rfl ?_
  intro p e s m args below meth c s₁ B hml hv
  subst hv
  have hx := B.exec
  have hb := B.bytes
  have hr := B.returns
  have hts := atoms_spec (ws := wsX5_generationOf) B.pre
  have hown : s.vm.findClass RX5 = some m.cls := findClass_of_methodNamed B.named
  have hlocks := B.notSynchronized
  have hl := lv_entry ([.int hd]) (n := 1) (Nat.le_of_ble_eq_true rfl)
  rw [lg_entry_eq]
  generalize (lg_sl ([.int hd]) ++ List.replicate (1 - (lg_sl ([.int hd])).length) Slot.unset).toArray = ls at hl ⊢
  have hl : lv_has ls 1 [(0, .int hd)] := hl
  refine lv_iload_n hx hb dX5_generationOf_0 rfl (lv_at hl 0 rfl) ?_
  refine lv_bipush (v := 8) hx hb dX5_generationOf_1 (by decide) ?_
  refine lv_idiv hx hb dX5_generationOf_3 (by decide) ?_
  refine lv_topi (fun v6 ev6 => ?_)
  exact W.iret (v := v6) hx hb hr (fun t ht hW => ⟨v6, rfl, by subst ev6; rfl, ht⟩) (fun _ h => by cases h) dX5_generationOf_4
set_option maxHeartbeats 4000000 in
set_option maxRecDepth 100000 in
/-- isHandle(h) -/
theorem c_X7_isHandle (l : Launch) (hd : Int32) : Met l yX7_isHandle wsX7_isHandle ({ frames := 0, cells := 0, slots := 0, locals := 0 }) (fun v _ => v = ([.int hd] : List Value).toArray) (vp_Si (fun r => r = sp_ih hd)) 0 0 (fun _ => False) := by
  refine Met.ofW (cc := cX7_isHandle) (maxL := 1) (ret := (some .boolean)) (by decide) rfl ?_
  intro p e s m args below meth c s₁ B hml hv
  subst hv
  have hx := B.exec
  have hb := B.bytes
  have hr := B.returns
  have hts := atoms_spec (ws := wsX7_isHandle) B.pre
  have hown : s.vm.findClass RX7 = some m.cls := findClass_of_methodNamed B.named
  have hlocks := B.notSynchronized
  have hl := lv_entry ([.int hd]) (n := 1) (Nat.le_of_ble_eq_true rfl)
  rw [lg_entry_eq]
  generalize (lg_sl ([.int hd]) ++ List.replicate (1 - (lg_sl ([.int hd])).length) Slot.unset).toArray = ls at hl ⊢
  have hl : lv_has ls 1 [(0, .int hd)] := hl
  refine lv_iload_n hx hb dX7_isHandle_0 rfl (lv_at hl 0 rfl) ?_
  refine lv_if_lt (tgt := 17) hx hb dX7_isHandle_1 (by decide) (fun c7 => ?_) (fun c7 => ?_)
  · refine lv_iconst (v := 0) hx hb dX7_isHandle_17 (by decide) ?_
    exact W.zret (v := 0) hx hb hr (by decide) (fun t ht hW => ⟨0, rfl, by rw [sp_ih, if_pos c7], ht⟩) (fun _ h => by cases h) dX7_isHandle_18
  · refine lv_iload_n hx hb dX7_isHandle_4 rfl (lv_at hl 0 rfl) ?_
    refine lv_bipush (v := 8) hx hb dX7_isHandle_5 (by decide) ?_
    refine lv_irem hx hb dX7_isHandle_7 (by decide) ?_
    refine lv_topi (fun v8 ev8 => ?_)
    refine lv_bipush (v := 6) hx hb dX7_isHandle_8 (by decide) ?_
    refine lv_icmp_ge (tgt := 17) hx hb dX7_isHandle_10 (by decide) (fun c9 => ?_) (fun c9 => ?_)
    · refine lv_iconst (v := 0) hx hb dX7_isHandle_17 (by decide) ?_
      exact W.zret (v := 0) hx hb hr (by decide) (fun t ht hW => ⟨0, rfl, by subst ev8; rw [sp_ih, if_neg c7, if_pos c9], ht⟩) (fun _ h => by cases h) dX7_isHandle_18
    · refine lv_iconst (v := 1) hx hb dX7_isHandle_13 (by decide) ?_
      refine lv_goto (tgt := 18) hx hb dX7_isHandle_14 (by decide) ?_
      exact W.zret (v := 1) hx hb hr (by decide) (fun t ht hW => ⟨1, rfl, by subst ev8; rw [sp_ih, if_neg c7, if_neg c9], ht⟩) (fun _ h => by cases h) dX7_isHandle_18
set_option maxHeartbeats 4000000 in
set_option maxRecDepth 100000 in
/-- in(v, least, most) -/
theorem c_X7_in (l : Launch) (va vb vc : Int64) : Met l yX7_in wsX7_in ({ frames := 0, cells := 0, slots := 0, locals := 0 }) (fun v _ => v = ([.long va, .long vb, .long vc] : List Value).toArray) (vp_Si (fun r => r = sp_in va vb vc)) 0 0 (fun _ => False) := by
  refine Met.ofW (cc := cX7_in) (maxL := 6) (ret := (some .boolean)) (by decide) rfl ?_
  intro p e s m args below meth c s₁ B hml hv
  subst hv
  have hx := B.exec
  have hb := B.bytes
  have hr := B.returns
  have hts := atoms_spec (ws := wsX7_in) B.pre
  have hown : s.vm.findClass RX7 = some m.cls := findClass_of_methodNamed B.named
  have hlocks := B.notSynchronized
  have hl := lv_entry ([.long va, .long vb, .long vc]) (n := 6) (Nat.le_of_ble_eq_true rfl)
  rw [lg_entry_eq]
  generalize (lg_sl ([.long va, .long vb, .long vc]) ++ List.replicate (6 - (lg_sl ([.long va, .long vb, .long vc])).length) Slot.unset).toArray = ls at hl ⊢
  have hl : lv_has ls 6 [(0, .long va), (2, .long vb), (4, .long vc)] := hl
  refine lv_lload_n hx hb dX7_in_0 rfl (lv_at hl 0 rfl) ?_
  refine lv_lload_n hx hb dX7_in_1 rfl (lv_at hl 1 rfl) ?_
  refine W.lcmp hx hb dX7_in_2 ?_
  refine lv_if_lt (tgt := 17) hx hb dX7_in_3 (by decide) (fun c10 => ?_) (fun c10 => ?_)
  · refine lv_iconst (v := 0) hx hb dX7_in_17 (by decide) ?_
    exact W.zret (v := 0) hx hb hr (by decide) (fun t ht hW => ⟨0, rfl, by rw [sp_in, if_pos c10], ht⟩) (fun _ h => by cases h) dX7_in_18
  · refine lv_lload_n hx hb dX7_in_6 rfl (lv_at hl 0 rfl) ?_
    refine lv_lload hx hb dX7_in_7 (lv_at hl 2 rfl) ?_
    refine W.lcmp hx hb dX7_in_9 ?_
    refine lv_if_gt (tgt := 17) hx hb dX7_in_10 (by decide) (fun c11 => ?_) (fun c11 => ?_)
    · refine lv_iconst (v := 0) hx hb dX7_in_17 (by decide) ?_
      exact W.zret (v := 0) hx hb hr (by decide) (fun t ht hW => ⟨0, rfl, by rw [sp_in, if_neg c10, if_pos c11], ht⟩) (fun _ h => by cases h) dX7_in_18
    · refine lv_iconst (v := 1) hx hb dX7_in_13 (by decide) ?_
      refine lv_goto (tgt := 18) hx hb dX7_in_14 (by decide) ?_
      exact W.zret (v := 1) hx hb hr (by decide) (fun t ht hW => ⟨1, rfl, by rw [sp_in, if_neg c10, if_neg c11], ht⟩) (fun _ h => by cases h) dX7_in_18
set_option maxHeartbeats 4000000 in
set_option maxRecDepth 100000 in
/-- leastOf(bits) -/
theorem c_X5_leastOf (l : Launch) (bi : Int32) : Met l yX5_leastOf wsX5_leastOf ({ frames := 1, cells := 0, slots := 0, locals := 21 }) (fun v _ => v = ([.int bi] : List Value).toArray) (vp_Si (fun r => r = sp_lo bi)) 0 0 (fun _ => False) := by
  refine Met.ofW (cc := cX5_leastOf) (maxL := 2) (ret := (some .int)) (by decide) rfl ?_
  intro p e s m args below meth c s₁ B hml hv
  subst hv
  have hx := B.exec
  have hb := B.bytes
  have hr := B.returns
  have hts := atoms_spec (ws := wsX5_leastOf) B.pre
  have hown : s.vm.findClass RX5 = some m.cls := findClass_of_methodNamed B.named
  have hlocks := B.notSynchronized
  have hl := lv_entry ([.int bi]) (n := 2) (Nat.le_of_ble_eq_true rfl)
  rw [lg_entry_eq]
  generalize (lg_sl ([.int bi]) ++ List.replicate (2 - (lg_sl ([.int bi])).length) Slot.unset).toArray = ls at hl ⊢
  have hl : lv_has ls 2 [(0, .int bi)] := hl
  refine lv_iconst (v := 0) hx hb dX5_leastOf_0 (by decide) ?_
  refine lv_istore_n (lv' := [(1, .int 0), (0, .int bi)]) hx hb dX5_leastOf_1 rfl hl (by decide) rfl (fun ls hl => ?_)
  refine lv_iload_n hx hb dX5_leastOf_2 rfl (lv_at hl 0 rfl) ?_
  refine lv_bipush (v := 8) hx hb dX5_leastOf_3 (by decide) ?_
  refine lv_icmp_ge (tgt := 24) hx hb dX5_leastOf_5 (by decide) (fun c12 => ?_) (fun c12 => ?_)
  · exact absurd c12 (by decide)
  refine lv_iload_n hx hb dX5_leastOf_8 rfl (lv_at hl 1 rfl) ?_
  refine lv_iload_n hx hb dX5_leastOf_9 rfl (lv_at hl 0 rfl) ?_
  refine vp_callSi (W.runS (As := [.int bi, .int 0]) (rest := []) ⟨hx, hb, hml, hown, hts⟩ (c_X5_contains l bi 0) (va_cwS 2 hts gX5_leastOf_X5_contains rfl rfl rfl (by decide +kernel) ⟨Nat.le_of_ble_eq_true rfl, Nat.le_of_ble_eq_true rfl⟩) preEq rfl rfl hl.1 rfl (lv_room (Nat.le_of_ble_eq_true rfl)) dX5_leastOf_10 ⟨Nat.le_of_ble_eq_true rfl, Nat.le_of_ble_eq_true rfl⟩) (fun r13 hr13 => ?_)
  subst hr13
  refine lv_if_eq (tgt := 18) hx hb dX5_leastOf_13 (by decide) (fun c14 => ?_) (fun c14 => ?_)
  · refine lv_iinc (v := 1) (lv' := [(1, .int 1), (0, .int bi)]) hx hb dX5_leastOf_18 hl (k := 0) rfl (by decide) (by decide) rfl (fun ls hl => ?_)
    refine lv_goto (tgt := 2) hx hb dX5_leastOf_21 (by decide) ?_
    refine lv_iload_n hx hb dX5_leastOf_2 rfl (lv_at hl 0 rfl) ?_
    refine lv_bipush (v := 8) hx hb dX5_leastOf_3 (by decide) ?_
    refine lv_icmp_ge (tgt := 24) hx hb dX5_leastOf_5 (by decide) (fun c15 => ?_) (fun c15 => ?_)
    · exact absurd c15 (by decide)
    refine lv_iload_n hx hb dX5_leastOf_8 rfl (lv_at hl 1 rfl) ?_
    refine lv_iload_n hx hb dX5_leastOf_9 rfl (lv_at hl 0 rfl) ?_
    refine vp_callSi (W.runS (As := [.int bi, .int 1]) (rest := []) ⟨hx, hb, hml, hown, hts⟩ (c_X5_contains l bi 1) (va_cwS 2 hts gX5_leastOf_X5_contains rfl rfl rfl (by decide +kernel) ⟨Nat.le_of_ble_eq_true rfl, Nat.le_of_ble_eq_true rfl⟩) preEq rfl rfl hl.1 rfl (lv_room (Nat.le_of_ble_eq_true rfl)) dX5_leastOf_10 ⟨Nat.le_of_ble_eq_true rfl, Nat.le_of_ble_eq_true rfl⟩) (fun r16 hr16 => ?_)
    subst hr16
    refine lv_if_eq (tgt := 18) hx hb dX5_leastOf_13 (by decide) (fun c17 => ?_) (fun c17 => ?_)
    · refine lv_iinc (v := 2) (lv' := [(1, .int 2), (0, .int bi)]) hx hb dX5_leastOf_18 hl (k := 0) rfl (by decide) (by decide) rfl (fun ls hl => ?_)
      refine lv_goto (tgt := 2) hx hb dX5_leastOf_21 (by decide) ?_
      refine lv_iload_n hx hb dX5_leastOf_2 rfl (lv_at hl 0 rfl) ?_
      refine lv_bipush (v := 8) hx hb dX5_leastOf_3 (by decide) ?_
      refine lv_icmp_ge (tgt := 24) hx hb dX5_leastOf_5 (by decide) (fun c18 => ?_) (fun c18 => ?_)
      · exact absurd c18 (by decide)
      refine lv_iload_n hx hb dX5_leastOf_8 rfl (lv_at hl 1 rfl) ?_
      refine lv_iload_n hx hb dX5_leastOf_9 rfl (lv_at hl 0 rfl) ?_
      refine vp_callSi (W.runS (As := [.int bi, .int 2]) (rest := []) ⟨hx, hb, hml, hown, hts⟩ (c_X5_contains l bi 2) (va_cwS 2 hts gX5_leastOf_X5_contains rfl rfl rfl (by decide +kernel) ⟨Nat.le_of_ble_eq_true rfl, Nat.le_of_ble_eq_true rfl⟩) preEq rfl rfl hl.1 rfl (lv_room (Nat.le_of_ble_eq_true rfl)) dX5_leastOf_10 ⟨Nat.le_of_ble_eq_true rfl, Nat.le_of_ble_eq_true rfl⟩) (fun r19 hr19 => ?_)
      subst hr19
      refine lv_if_eq (tgt := 18) hx hb dX5_leastOf_13 (by decide) (fun c20 => ?_) (fun c20 => ?_)
      · refine lv_iinc (v := 3) (lv' := [(1, .int 3), (0, .int bi)]) hx hb dX5_leastOf_18 hl (k := 0) rfl (by decide) (by decide) rfl (fun ls hl => ?_)
        refine lv_goto (tgt := 2) hx hb dX5_leastOf_21 (by decide) ?_
        refine lv_iload_n hx hb dX5_leastOf_2 rfl (lv_at hl 0 rfl) ?_
        refine lv_bipush (v := 8) hx hb dX5_leastOf_3 (by decide) ?_
        refine lv_icmp_ge (tgt := 24) hx hb dX5_leastOf_5 (by decide) (fun c21 => ?_) (fun c21 => ?_)
        · exact absurd c21 (by decide)
        refine lv_iload_n hx hb dX5_leastOf_8 rfl (lv_at hl 1 rfl) ?_
        refine lv_iload_n hx hb dX5_leastOf_9 rfl (lv_at hl 0 rfl) ?_
        refine vp_callSi (W.runS (As := [.int bi, .int 3]) (rest := []) ⟨hx, hb, hml, hown, hts⟩ (c_X5_contains l bi 3) (va_cwS 2 hts gX5_leastOf_X5_contains rfl rfl rfl (by decide +kernel) ⟨Nat.le_of_ble_eq_true rfl, Nat.le_of_ble_eq_true rfl⟩) preEq rfl rfl hl.1 rfl (lv_room (Nat.le_of_ble_eq_true rfl)) dX5_leastOf_10 ⟨Nat.le_of_ble_eq_true rfl, Nat.le_of_ble_eq_true rfl⟩) (fun r22 hr22 => ?_)
        subst hr22
        refine lv_if_eq (tgt := 18) hx hb dX5_leastOf_13 (by decide) (fun c23 => ?_) (fun c23 => ?_)
        · refine lv_iinc (v := 4) (lv' := [(1, .int 4), (0, .int bi)]) hx hb dX5_leastOf_18 hl (k := 0) rfl (by decide) (by decide) rfl (fun ls hl => ?_)
          refine lv_goto (tgt := 2) hx hb dX5_leastOf_21 (by decide) ?_
          refine lv_iload_n hx hb dX5_leastOf_2 rfl (lv_at hl 0 rfl) ?_
          refine lv_bipush (v := 8) hx hb dX5_leastOf_3 (by decide) ?_
          refine lv_icmp_ge (tgt := 24) hx hb dX5_leastOf_5 (by decide) (fun c24 => ?_) (fun c24 => ?_)
          · exact absurd c24 (by decide)
          refine lv_iload_n hx hb dX5_leastOf_8 rfl (lv_at hl 1 rfl) ?_
          refine lv_iload_n hx hb dX5_leastOf_9 rfl (lv_at hl 0 rfl) ?_
          refine vp_callSi (W.runS (As := [.int bi, .int 4]) (rest := []) ⟨hx, hb, hml, hown, hts⟩ (c_X5_contains l bi 4) (va_cwS 2 hts gX5_leastOf_X5_contains rfl rfl rfl (by decide +kernel) ⟨Nat.le_of_ble_eq_true rfl, Nat.le_of_ble_eq_true rfl⟩) preEq rfl rfl hl.1 rfl (lv_room (Nat.le_of_ble_eq_true rfl)) dX5_leastOf_10 ⟨Nat.le_of_ble_eq_true rfl, Nat.le_of_ble_eq_true rfl⟩) (fun r25 hr25 => ?_)
          subst hr25
          refine lv_if_eq (tgt := 18) hx hb dX5_leastOf_13 (by decide) (fun c26 => ?_) (fun c26 => ?_)
          · refine lv_iinc (v := 5) (lv' := [(1, .int 5), (0, .int bi)]) hx hb dX5_leastOf_18 hl (k := 0) rfl (by decide) (by decide) rfl (fun ls hl => ?_)
            refine lv_goto (tgt := 2) hx hb dX5_leastOf_21 (by decide) ?_
            refine lv_iload_n hx hb dX5_leastOf_2 rfl (lv_at hl 0 rfl) ?_
            refine lv_bipush (v := 8) hx hb dX5_leastOf_3 (by decide) ?_
            refine lv_icmp_ge (tgt := 24) hx hb dX5_leastOf_5 (by decide) (fun c27 => ?_) (fun c27 => ?_)
            · exact absurd c27 (by decide)
            refine lv_iload_n hx hb dX5_leastOf_8 rfl (lv_at hl 1 rfl) ?_
            refine lv_iload_n hx hb dX5_leastOf_9 rfl (lv_at hl 0 rfl) ?_
            refine vp_callSi (W.runS (As := [.int bi, .int 5]) (rest := []) ⟨hx, hb, hml, hown, hts⟩ (c_X5_contains l bi 5) (va_cwS 2 hts gX5_leastOf_X5_contains rfl rfl rfl (by decide +kernel) ⟨Nat.le_of_ble_eq_true rfl, Nat.le_of_ble_eq_true rfl⟩) preEq rfl rfl hl.1 rfl (lv_room (Nat.le_of_ble_eq_true rfl)) dX5_leastOf_10 ⟨Nat.le_of_ble_eq_true rfl, Nat.le_of_ble_eq_true rfl⟩) (fun r28 hr28 => ?_)
            subst hr28
            refine lv_if_eq (tgt := 18) hx hb dX5_leastOf_13 (by decide) (fun c29 => ?_) (fun c29 => ?_)
            · refine lv_iinc (v := 6) (lv' := [(1, .int 6), (0, .int bi)]) hx hb dX5_leastOf_18 hl (k := 0) rfl (by decide) (by decide) rfl (fun ls hl => ?_)
              refine lv_goto (tgt := 2) hx hb dX5_leastOf_21 (by decide) ?_
              refine lv_iload_n hx hb dX5_leastOf_2 rfl (lv_at hl 0 rfl) ?_
              refine lv_bipush (v := 8) hx hb dX5_leastOf_3 (by decide) ?_
              refine lv_icmp_ge (tgt := 24) hx hb dX5_leastOf_5 (by decide) (fun c30 => ?_) (fun c30 => ?_)
              · exact absurd c30 (by decide)
              refine lv_iload_n hx hb dX5_leastOf_8 rfl (lv_at hl 1 rfl) ?_
              refine lv_iload_n hx hb dX5_leastOf_9 rfl (lv_at hl 0 rfl) ?_
              refine vp_callSi (W.runS (As := [.int bi, .int 6]) (rest := []) ⟨hx, hb, hml, hown, hts⟩ (c_X5_contains l bi 6) (va_cwS 2 hts gX5_leastOf_X5_contains rfl rfl rfl (by decide +kernel) ⟨Nat.le_of_ble_eq_true rfl, Nat.le_of_ble_eq_true rfl⟩) preEq rfl rfl hl.1 rfl (lv_room (Nat.le_of_ble_eq_true rfl)) dX5_leastOf_10 ⟨Nat.le_of_ble_eq_true rfl, Nat.le_of_ble_eq_true rfl⟩) (fun r31 hr31 => ?_)
              subst hr31
              refine lv_if_eq (tgt := 18) hx hb dX5_leastOf_13 (by decide) (fun c32 => ?_) (fun c32 => ?_)
              · refine lv_iinc (v := 7) (lv' := [(1, .int 7), (0, .int bi)]) hx hb dX5_leastOf_18 hl (k := 0) rfl (by decide) (by decide) rfl (fun ls hl => ?_)
                refine lv_goto (tgt := 2) hx hb dX5_leastOf_21 (by decide) ?_
                refine lv_iload_n hx hb dX5_leastOf_2 rfl (lv_at hl 0 rfl) ?_
                refine lv_bipush (v := 8) hx hb dX5_leastOf_3 (by decide) ?_
                refine lv_icmp_ge (tgt := 24) hx hb dX5_leastOf_5 (by decide) (fun c33 => ?_) (fun c33 => ?_)
                · exact absurd c33 (by decide)
                refine lv_iload_n hx hb dX5_leastOf_8 rfl (lv_at hl 1 rfl) ?_
                refine lv_iload_n hx hb dX5_leastOf_9 rfl (lv_at hl 0 rfl) ?_
                refine vp_callSi (W.runS (As := [.int bi, .int 7]) (rest := []) ⟨hx, hb, hml, hown, hts⟩ (c_X5_contains l bi 7) (va_cwS 2 hts gX5_leastOf_X5_contains rfl rfl rfl (by decide +kernel) ⟨Nat.le_of_ble_eq_true rfl, Nat.le_of_ble_eq_true rfl⟩) preEq rfl rfl hl.1 rfl (lv_room (Nat.le_of_ble_eq_true rfl)) dX5_leastOf_10 ⟨Nat.le_of_ble_eq_true rfl, Nat.le_of_ble_eq_true rfl⟩) (fun r34 hr34 => ?_)
                subst hr34
                refine lv_if_eq (tgt := 18) hx hb dX5_leastOf_13 (by decide) (fun c35 => ?_) (fun c35 => ?_)
                · refine lv_iinc (v := 8) (lv' := [(1, .int 8), (0, .int bi)]) hx hb dX5_leastOf_18 hl (k := 0) rfl (by decide) (by decide) rfl (fun ls hl => ?_)
                  refine lv_goto (tgt := 2) hx hb dX5_leastOf_21 (by decide) ?_
                  refine lv_iload_n hx hb dX5_leastOf_2 rfl (lv_at hl 0 rfl) ?_
                  refine lv_bipush (v := 8) hx hb dX5_leastOf_3 (by decide) ?_
                  refine lv_icmp_ge (tgt := 24) hx hb dX5_leastOf_5 (by decide) (fun c36 => ?_) (fun c36 => ?_)
                  rotate_left
                  · exact absurd c36 (by decide)
                  refine lv_iconst (v := (-1)) hx hb dX5_leastOf_24 (by decide) ?_
                  exact W.iret (v := (-1)) hx hb hr (fun t ht hW => ⟨(-1), rfl, by rw [sp_lo, if_pos c14, if_pos c17, if_pos c20, if_pos c23, if_pos c26, if_pos c29, if_pos c32, if_pos c35], ht⟩) (fun _ h => by cases h) dX5_leastOf_25
                · refine lv_iload_n hx hb dX5_leastOf_16 rfl (lv_at hl 0 rfl) ?_
                  exact W.iret (v := 7) hx hb hr (fun t ht hW => ⟨7, rfl, by rw [sp_lo, if_pos c14, if_pos c17, if_pos c20, if_pos c23, if_pos c26, if_pos c29, if_pos c32, if_neg c35], ht⟩) (fun _ h => by cases h) dX5_leastOf_17
              · refine lv_iload_n hx hb dX5_leastOf_16 rfl (lv_at hl 0 rfl) ?_
                exact W.iret (v := 6) hx hb hr (fun t ht hW => ⟨6, rfl, by rw [sp_lo, if_pos c14, if_pos c17, if_pos c20, if_pos c23, if_pos c26, if_pos c29, if_neg c32], ht⟩) (fun _ h => by cases h) dX5_leastOf_17
            · refine lv_iload_n hx hb dX5_leastOf_16 rfl (lv_at hl 0 rfl) ?_
              exact W.iret (v := 5) hx hb hr (fun t ht hW => ⟨5, rfl, by rw [sp_lo, if_pos c14, if_pos c17, if_pos c20, if_pos c23, if_pos c26, if_neg c29], ht⟩) (fun _ h => by cases h) dX5_leastOf_17
          · refine lv_iload_n hx hb dX5_leastOf_16 rfl (lv_at hl 0 rfl) ?_
            exact W.iret (v := 4) hx hb hr (fun t ht hW => ⟨4, rfl, by rw [sp_lo, if_pos c14, if_pos c17, if_pos c20, if_pos c23, if_neg c26], ht⟩) (fun _ h => by cases h) dX5_leastOf_17
        · refine lv_iload_n hx hb dX5_leastOf_16 rfl (lv_at hl 0 rfl) ?_
          exact W.iret (v := 3) hx hb hr (fun t ht hW => ⟨3, rfl, by rw [sp_lo, if_pos c14, if_pos c17, if_pos c20, if_neg c23], ht⟩) (fun _ h => by cases h) dX5_leastOf_17
      · refine lv_iload_n hx hb dX5_leastOf_16 rfl (lv_at hl 0 rfl) ?_
        exact W.iret (v := 2) hx hb hr (fun t ht hW => ⟨2, rfl, by rw [sp_lo, if_pos c14, if_pos c17, if_neg c20], ht⟩) (fun _ h => by cases h) dX5_leastOf_17
    · refine lv_iload_n hx hb dX5_leastOf_16 rfl (lv_at hl 0 rfl) ?_
      exact W.iret (v := 1) hx hb hr (fun t ht hW => ⟨1, rfl, by rw [sp_lo, if_pos c14, if_neg c17], ht⟩) (fun _ h => by cases h) dX5_leastOf_17
  · refine lv_iload_n hx hb dX5_leastOf_16 rfl (lv_at hl 0 rfl) ?_
    exact W.iret (v := 0) hx hb hr (fun t ht hW => ⟨0, rfl, by rw [sp_lo, if_neg c14], ht⟩) (fun _ h => by cases h) dX5_leastOf_17
set_option maxHeartbeats 4000000 in
set_option maxRecDepth 100000 in
/-- Integer.bitCount -/
theorem c_J6_bitCount_0f7a4 (l : Launch) (ia : Int32) : Met l yJ6_bitCount_0f7a4 wsJ6_bitCount_0f7a4 ({ frames := 0, cells := 0, slots := 0, locals := 0 }) (fun v _ => v = ([.int ia] : List Value).toArray) (vp_Si (fun r => r = sp_bc ia)) 0 0 (fun _ => False) := by
  refine Met.ofW (cc := cJ6_bitCount_0f7a4) (maxL := 1) (ret := (some .int)) (by decide) rfl ?_
  intro p e s m args below meth c s₁ B hml hv
  subst hv
  have hx := B.exec
  have hb := B.bytes
  have hr := B.returns
  have hts := atoms_spec (ws := wsJ6_bitCount_0f7a4) B.pre
  have hown : s.vm.findClass RJ6 = some m.cls := findClass_of_methodNamed B.named
  have hlocks := B.notSynchronized
  have hl := lv_entry ([.int ia]) (n := 1) (Nat.le_of_ble_eq_true rfl)
  rw [lg_entry_eq]
  generalize (lg_sl ([.int ia]) ++ List.replicate (1 - (lg_sl ([.int ia])).length) Slot.unset).toArray = ls at hl ⊢
  have hl : lv_has ls 1 [(0, .int ia)] := hl
  refine lv_iload_n hx hb dJ6_bitCount_0f7a4_0 rfl (lv_at hl 0 rfl) ?_
  refine lv_iload_n hx hb dJ6_bitCount_0f7a4_1 rfl (lv_at hl 0 rfl) ?_
  refine lv_iconst (v := 1) hx hb dJ6_bitCount_0f7a4_2 (by decide) ?_
  refine lv_iushr hx hb dJ6_bitCount_0f7a4_3 rfl ?_
  refine lv_topi (fun v37 ev37 => ?_)
  refine lv_ldcw hx hb hown (hts (.constant RJ6 265 1431655765) (by decide +kernel)) dJ6_bitCount_0f7a4_4 ?_
  refine lv_iand hx hb dJ6_bitCount_0f7a4_7 ?_
  refine lv_topi (fun v38 ev38 => ?_)
  refine lv_isub hx hb dJ6_bitCount_0f7a4_8 ?_
  refine lv_topi (fun v39 ev39 => ?_)
  refine lv_istore_n (lv' := [(0, .int v39)]) hx hb dJ6_bitCount_0f7a4_9 rfl hl (by decide) rfl (fun ls hl => ?_)
  refine lv_iload_n hx hb dJ6_bitCount_0f7a4_10 rfl (lv_at hl 0 rfl) ?_
  refine lv_ldcw hx hb hown (hts (.constant RJ6 266 858993459) (by decide +kernel)) dJ6_bitCount_0f7a4_11 ?_
  refine lv_iand hx hb dJ6_bitCount_0f7a4_14 ?_
  refine lv_topi (fun v40 ev40 => ?_)
  refine lv_iload_n hx hb dJ6_bitCount_0f7a4_15 rfl (lv_at hl 0 rfl) ?_
  refine lv_iconst (v := 2) hx hb dJ6_bitCount_0f7a4_16 (by decide) ?_
  refine lv_iushr hx hb dJ6_bitCount_0f7a4_17 rfl ?_
  refine lv_topi (fun v41 ev41 => ?_)
  refine lv_ldcw hx hb hown (hts (.constant RJ6 266 858993459) (by decide +kernel)) dJ6_bitCount_0f7a4_18 ?_
  refine lv_iand hx hb dJ6_bitCount_0f7a4_21 ?_
  refine lv_topi (fun v42 ev42 => ?_)
  refine lv_iadd hx hb dJ6_bitCount_0f7a4_22 ?_
  refine lv_topi (fun v43 ev43 => ?_)
  refine lv_istore_n (lv' := [(0, .int v43)]) hx hb dJ6_bitCount_0f7a4_23 rfl hl (by decide) rfl (fun ls hl => ?_)
  refine lv_iload_n hx hb dJ6_bitCount_0f7a4_24 rfl (lv_at hl 0 rfl) ?_
  refine lv_iload_n hx hb dJ6_bitCount_0f7a4_25 rfl (lv_at hl 0 rfl) ?_
  refine lv_iconst (v := 4) hx hb dJ6_bitCount_0f7a4_26 (by decide) ?_
  refine lv_iushr hx hb dJ6_bitCount_0f7a4_27 rfl ?_
  refine lv_topi (fun v44 ev44 => ?_)
  refine lv_iadd hx hb dJ6_bitCount_0f7a4_28 ?_
  refine lv_topi (fun v45 ev45 => ?_)
  refine lv_ldcw hx hb hown (hts (.constant RJ6 267 252645135) (by decide +kernel)) dJ6_bitCount_0f7a4_29 ?_
  refine lv_iand hx hb dJ6_bitCount_0f7a4_32 ?_
  refine lv_topi (fun v46 ev46 => ?_)
  refine lv_istore_n (lv' := [(0, .int v46)]) hx hb dJ6_bitCount_0f7a4_33 rfl hl (by decide) rfl (fun ls hl => ?_)
  refine lv_iload_n hx hb dJ6_bitCount_0f7a4_34 rfl (lv_at hl 0 rfl) ?_
  refine lv_iload_n hx hb dJ6_bitCount_0f7a4_35 rfl (lv_at hl 0 rfl) ?_
  refine lv_bipush (v := 8) hx hb dJ6_bitCount_0f7a4_36 (by decide) ?_
  refine lv_iushr hx hb dJ6_bitCount_0f7a4_38 rfl ?_
  refine lv_topi (fun v47 ev47 => ?_)
  refine lv_iadd hx hb dJ6_bitCount_0f7a4_39 ?_
  refine lv_topi (fun v48 ev48 => ?_)
  refine lv_istore_n (lv' := [(0, .int v48)]) hx hb dJ6_bitCount_0f7a4_40 rfl hl (by decide) rfl (fun ls hl => ?_)
  refine lv_iload_n hx hb dJ6_bitCount_0f7a4_41 rfl (lv_at hl 0 rfl) ?_
  refine lv_iload_n hx hb dJ6_bitCount_0f7a4_42 rfl (lv_at hl 0 rfl) ?_
  refine lv_bipush (v := 16) hx hb dJ6_bitCount_0f7a4_43 (by decide) ?_
  refine lv_iushr hx hb dJ6_bitCount_0f7a4_45 rfl ?_
  refine lv_topi (fun v49 ev49 => ?_)
  refine lv_iadd hx hb dJ6_bitCount_0f7a4_46 ?_
  refine lv_topi (fun v50 ev50 => ?_)
  refine lv_istore_n (lv' := [(0, .int v50)]) hx hb dJ6_bitCount_0f7a4_47 rfl hl (by decide) rfl (fun ls hl => ?_)
  refine lv_iload_n hx hb dJ6_bitCount_0f7a4_48 rfl (lv_at hl 0 rfl) ?_
  refine lv_bipush (v := 63) hx hb dJ6_bitCount_0f7a4_49 (by decide) ?_
  refine lv_iand hx hb dJ6_bitCount_0f7a4_51 ?_
  refine lv_topi (fun v51 ev51 => ?_)
  exact W.iret (v := v51) hx hb hr (fun t ht hW => ⟨v51, rfl, by subst ev37; subst ev38; subst ev39; subst ev40; subst ev41; subst ev42; subst ev43; subst ev44; subst ev45; subst ev46; subst ev47; subst ev48; subst ev49; subst ev50; subst ev51; rfl, ht⟩) (fun _ h => by cases h) dJ6_bitCount_0f7a4_52
set_option maxHeartbeats 4000000 in
set_option maxRecDepth 100000 in
/-- Integer.numberOfTrailingZeros -/
theorem c_J6_numberOfTrailingZeros_0f7a4 (l : Launch) (ia : Int32) : Met l yJ6_numberOfTrailingZeros_0f7a4 wsJ6_numberOfTrailingZeros_0f7a4 ({ frames := 0, cells := 0, slots := 0, locals := 0 }) (fun v _ => v = ([.int ia] : List Value).toArray) (vp_Si (fun r => r = sp_nz ia)) 0 0 (fun _ => False) := by
  refine Met.ofW (cc := cJ6_numberOfTrailingZeros_0f7a4) (maxL := 2) (ret := (some .int)) (by decide) rfl ?_
  intro p e s m args below meth c s₁ B hml hv
  subst hv
  have hx := B.exec
  have hb := B.bytes
  have hr := B.returns
  have hts := atoms_spec (ws := wsJ6_numberOfTrailingZeros_0f7a4) B.pre
  have hown : s.vm.findClass RJ6 = some m.cls := findClass_of_methodNamed B.named
  have hlocks := B.notSynchronized
  have hl := lv_entry ([.int ia]) (n := 2) (Nat.le_of_ble_eq_true rfl)
  rw [lg_entry_eq]
  generalize (lg_sl ([.int ia]) ++ List.replicate (2 - (lg_sl ([.int ia])).length) Slot.unset).toArray = ls at hl ⊢
  have hl : lv_has ls 2 [(0, .int ia)] := hl
  refine lv_iload_n hx hb dJ6_numberOfTrailingZeros_0f7a4_0 rfl (lv_at hl 0 rfl) ?_
  refine lv_iconst (v := (-1)) hx hb dJ6_numberOfTrailingZeros_0f7a4_1 (by decide) ?_
  refine lv_ixor hx hb dJ6_numberOfTrailingZeros_0f7a4_2 ?_
  refine lv_topi (fun v52 ev52 => ?_)
  refine lv_iload_n hx hb dJ6_numberOfTrailingZeros_0f7a4_3 rfl (lv_at hl 0 rfl) ?_
  refine lv_iconst (v := 1) hx hb dJ6_numberOfTrailingZeros_0f7a4_4 (by decide) ?_
  refine lv_isub hx hb dJ6_numberOfTrailingZeros_0f7a4_5 ?_
  refine lv_topi (fun v53 ev53 => ?_)
  refine lv_iand hx hb dJ6_numberOfTrailingZeros_0f7a4_6 ?_
  refine lv_topi (fun v54 ev54 => ?_)
  refine lv_istore_n (lv' := [(0, .int v54)]) hx hb dJ6_numberOfTrailingZeros_0f7a4_7 rfl hl (by decide) rfl (fun ls hl => ?_)
  refine lv_iload_n hx hb dJ6_numberOfTrailingZeros_0f7a4_8 rfl (lv_at hl 0 rfl) ?_
  refine lv_if_gt (tgt := 17) hx hb dJ6_numberOfTrailingZeros_0f7a4_9 (by decide) (fun c55 => ?_) (fun c55 => ?_)
  · refine lv_iconst (v := 1) hx hb dJ6_numberOfTrailingZeros_0f7a4_17 (by decide) ?_
    refine lv_istore_n (lv' := [(1, .int 1), (0, .int v54)]) hx hb dJ6_numberOfTrailingZeros_0f7a4_18 rfl hl (by decide) rfl (fun ls hl => ?_)
    refine lv_iload_n hx hb dJ6_numberOfTrailingZeros_0f7a4_19 rfl (lv_at hl 1 rfl) ?_
    refine lv_ldcw hx hb hown (hts (.constant RJ6 264 65536) (by decide +kernel)) dJ6_numberOfTrailingZeros_0f7a4_20 ?_
    refine lv_icmp_le (tgt := 34) hx hb dJ6_numberOfTrailingZeros_0f7a4_23 (by decide) (fun c56 => ?_) (fun c56 => ?_)
    · refine lv_iload_n hx hb dJ6_numberOfTrailingZeros_0f7a4_34 rfl (lv_at hl 1 rfl) ?_
      refine lv_sipush (v := 256) hx hb dJ6_numberOfTrailingZeros_0f7a4_35 (by decide) ?_
      refine lv_icmp_le (tgt := 49) hx hb dJ6_numberOfTrailingZeros_0f7a4_38 (by decide) (fun c57 => ?_) (fun c57 => ?_)
      · refine lv_iload_n hx hb dJ6_numberOfTrailingZeros_0f7a4_49 rfl (lv_at hl 1 rfl) ?_
        refine lv_bipush (v := 16) hx hb dJ6_numberOfTrailingZeros_0f7a4_50 (by decide) ?_
        refine lv_icmp_le (tgt := 62) hx hb dJ6_numberOfTrailingZeros_0f7a4_52 (by decide) (fun c58 => ?_) (fun c58 => ?_)
        · refine lv_iload_n hx hb dJ6_numberOfTrailingZeros_0f7a4_62 rfl (lv_at hl 1 rfl) ?_
          refine lv_iconst (v := 4) hx hb dJ6_numberOfTrailingZeros_0f7a4_63 (by decide) ?_
          refine lv_icmp_le (tgt := 74) hx hb dJ6_numberOfTrailingZeros_0f7a4_64 (by decide) (fun c59 => ?_) (fun c59 => ?_)
          · refine lv_iload_n hx hb dJ6_numberOfTrailingZeros_0f7a4_74 rfl (lv_at hl 0 rfl) ?_
            refine lv_iload_n hx hb dJ6_numberOfTrailingZeros_0f7a4_75 rfl (lv_at hl 1 rfl) ?_
            refine lv_iconst (v := 1) hx hb dJ6_numberOfTrailingZeros_0f7a4_76 (by decide) ?_
            refine lv_iushr hx hb dJ6_numberOfTrailingZeros_0f7a4_77 rfl ?_
            refine lv_topi (fun v60 ev60 => ?_)
            refine lv_iadd hx hb dJ6_numberOfTrailingZeros_0f7a4_78 ?_
            refine lv_topi (fun v61 ev61 => ?_)
            exact W.iret (v := v61) hx hb hr (fun t ht hW => ⟨v61, rfl, by subst ev52; subst ev53; subst ev54; subst ev60; subst ev61; refine Eq.symm ?_; refine (if_pos c55).trans ?_; refine (if_pos c56).trans ?_; refine (if_pos c57).trans ?_; refine (if_pos c58).trans ?_; refine (if_pos c59).trans ?_; rfl, ht⟩) (fun _ h => by cases h) dJ6_numberOfTrailingZeros_0f7a4_79
          · refine lv_iinc (v := 3) (lv' := [(1, .int 3), (0, .int v54)]) hx hb dJ6_numberOfTrailingZeros_0f7a4_67 hl (k := 0) rfl (by decide) (by decide) rfl (fun ls hl => ?_)
            refine lv_iload_n hx hb dJ6_numberOfTrailingZeros_0f7a4_70 rfl (lv_at hl 1 rfl) ?_
            refine lv_iconst (v := 2) hx hb dJ6_numberOfTrailingZeros_0f7a4_71 (by decide) ?_
            refine lv_iushr hx hb dJ6_numberOfTrailingZeros_0f7a4_72 rfl ?_
            refine lv_topi (fun v62 ev62 => ?_)
            refine lv_istore_n (lv' := [(0, .int v62), (1, .int 3)]) hx hb dJ6_numberOfTrailingZeros_0f7a4_73 rfl hl (by decide) rfl (fun ls hl => ?_)
            refine lv_iload_n hx hb dJ6_numberOfTrailingZeros_0f7a4_74 rfl (lv_at hl 1 rfl) ?_
            refine lv_iload_n hx hb dJ6_numberOfTrailingZeros_0f7a4_75 rfl (lv_at hl 0 rfl) ?_
            refine lv_iconst (v := 1) hx hb dJ6_numberOfTrailingZeros_0f7a4_76 (by decide) ?_
            refine lv_iushr hx hb dJ6_numberOfTrailingZeros_0f7a4_77 rfl ?_
            refine lv_topi (fun v63 ev63 => ?_)
            refine lv_iadd hx hb dJ6_numberOfTrailingZeros_0f7a4_78 ?_
            refine lv_topi (fun v64 ev64 => ?_)
            exact W.iret (v := v64) hx hb hr (fun t ht hW => ⟨v64, rfl, by subst ev52; subst ev53; subst ev54; subst ev62; subst ev63; subst ev64; refine Eq.symm ?_; refine (if_pos c55).trans ?_; refine (if_pos c56).trans ?_; refine (if_pos c57).trans ?_; refine (if_pos c58).trans ?_; refine (if_neg c59).trans ?_; rfl, ht⟩) (fun _ h => by cases h) dJ6_numberOfTrailingZeros_0f7a4_79
        · refine lv_iinc (v := 5) (lv' := [(1, .int 5), (0, .int v54)]) hx hb dJ6_numberOfTrailingZeros_0f7a4_55 hl (k := 0) rfl (by decide) (by decide) rfl (fun ls hl => ?_)
          refine lv_iload_n hx hb dJ6_numberOfTrailingZeros_0f7a4_58 rfl (lv_at hl 1 rfl) ?_
          refine lv_iconst (v := 4) hx hb dJ6_numberOfTrailingZeros_0f7a4_59 (by decide) ?_
          refine lv_iushr hx hb dJ6_numberOfTrailingZeros_0f7a4_60 rfl ?_
          refine lv_topi (fun v65 ev65 => ?_)
          refine lv_istore_n (lv' := [(0, .int v65), (1, .int 5)]) hx hb dJ6_numberOfTrailingZeros_0f7a4_61 rfl hl (by decide) rfl (fun ls hl => ?_)
          refine lv_iload_n hx hb dJ6_numberOfTrailingZeros_0f7a4_62 rfl (lv_at hl 0 rfl) ?_
          refine lv_iconst (v := 4) hx hb dJ6_numberOfTrailingZeros_0f7a4_63 (by decide) ?_
          refine lv_icmp_le (tgt := 74) hx hb dJ6_numberOfTrailingZeros_0f7a4_64 (by decide) (fun c66 => ?_) (fun c66 => ?_)
          · refine lv_iload_n hx hb dJ6_numberOfTrailingZeros_0f7a4_74 rfl (lv_at hl 1 rfl) ?_
            refine lv_iload_n hx hb dJ6_numberOfTrailingZeros_0f7a4_75 rfl (lv_at hl 0 rfl) ?_
            refine lv_iconst (v := 1) hx hb dJ6_numberOfTrailingZeros_0f7a4_76 (by decide) ?_
            refine lv_iushr hx hb dJ6_numberOfTrailingZeros_0f7a4_77 rfl ?_
            refine lv_topi (fun v67 ev67 => ?_)
            refine lv_iadd hx hb dJ6_numberOfTrailingZeros_0f7a4_78 ?_
            refine lv_topi (fun v68 ev68 => ?_)
            exact W.iret (v := v68) hx hb hr (fun t ht hW => ⟨v68, rfl, by subst ev52; subst ev53; subst ev54; subst ev65; subst ev67; subst ev68; refine Eq.symm ?_; refine (if_pos c55).trans ?_; refine (if_pos c56).trans ?_; refine (if_pos c57).trans ?_; refine (if_neg c58).trans ?_; refine (if_pos c66).trans ?_; rfl, ht⟩) (fun _ h => by cases h) dJ6_numberOfTrailingZeros_0f7a4_79
          · refine lv_iinc (v := 7) (lv' := [(1, .int 7), (0, .int v65)]) hx hb dJ6_numberOfTrailingZeros_0f7a4_67 hl (k := 1) rfl (by decide) (by decide) rfl (fun ls hl => ?_)
            refine lv_iload_n hx hb dJ6_numberOfTrailingZeros_0f7a4_70 rfl (lv_at hl 1 rfl) ?_
            refine lv_iconst (v := 2) hx hb dJ6_numberOfTrailingZeros_0f7a4_71 (by decide) ?_
            refine lv_iushr hx hb dJ6_numberOfTrailingZeros_0f7a4_72 rfl ?_
            refine lv_topi (fun v69 ev69 => ?_)
            refine lv_istore_n (lv' := [(0, .int v69), (1, .int 7)]) hx hb dJ6_numberOfTrailingZeros_0f7a4_73 rfl hl (by decide) rfl (fun ls hl => ?_)
            refine lv_iload_n hx hb dJ6_numberOfTrailingZeros_0f7a4_74 rfl (lv_at hl 1 rfl) ?_
            refine lv_iload_n hx hb dJ6_numberOfTrailingZeros_0f7a4_75 rfl (lv_at hl 0 rfl) ?_
            refine lv_iconst (v := 1) hx hb dJ6_numberOfTrailingZeros_0f7a4_76 (by decide) ?_
            refine lv_iushr hx hb dJ6_numberOfTrailingZeros_0f7a4_77 rfl ?_
            refine lv_topi (fun v70 ev70 => ?_)
            refine lv_iadd hx hb dJ6_numberOfTrailingZeros_0f7a4_78 ?_
            refine lv_topi (fun v71 ev71 => ?_)
            exact W.iret (v := v71) hx hb hr (fun t ht hW => ⟨v71, rfl, by subst ev52; subst ev53; subst ev54; subst ev65; subst ev69; subst ev70; subst ev71; refine Eq.symm ?_; refine (if_pos c55).trans ?_; refine (if_pos c56).trans ?_; refine (if_pos c57).trans ?_; refine (if_neg c58).trans ?_; refine (if_neg c66).trans ?_; rfl, ht⟩) (fun _ h => by cases h) dJ6_numberOfTrailingZeros_0f7a4_79
      · refine lv_iinc (v := 9) (lv' := [(1, .int 9), (0, .int v54)]) hx hb dJ6_numberOfTrailingZeros_0f7a4_41 hl (k := 0) rfl (by decide) (by decide) rfl (fun ls hl => ?_)
        refine lv_iload_n hx hb dJ6_numberOfTrailingZeros_0f7a4_44 rfl (lv_at hl 1 rfl) ?_
        refine lv_bipush (v := 8) hx hb dJ6_numberOfTrailingZeros_0f7a4_45 (by decide) ?_
        refine lv_iushr hx hb dJ6_numberOfTrailingZeros_0f7a4_47 rfl ?_
        refine lv_topi (fun v72 ev72 => ?_)
        refine lv_istore_n (lv' := [(0, .int v72), (1, .int 9)]) hx hb dJ6_numberOfTrailingZeros_0f7a4_48 rfl hl (by decide) rfl (fun ls hl => ?_)
        refine lv_iload_n hx hb dJ6_numberOfTrailingZeros_0f7a4_49 rfl (lv_at hl 0 rfl) ?_
        refine lv_bipush (v := 16) hx hb dJ6_numberOfTrailingZeros_0f7a4_50 (by decide) ?_
        refine lv_icmp_le (tgt := 62) hx hb dJ6_numberOfTrailingZeros_0f7a4_52 (by decide) (fun c73 => ?_) (fun c73 => ?_)
        · refine lv_iload_n hx hb dJ6_numberOfTrailingZeros_0f7a4_62 rfl (lv_at hl 0 rfl) ?_
          refine lv_iconst (v := 4) hx hb dJ6_numberOfTrailingZeros_0f7a4_63 (by decide) ?_
          refine lv_icmp_le (tgt := 74) hx hb dJ6_numberOfTrailingZeros_0f7a4_64 (by decide) (fun c74 => ?_) (fun c74 => ?_)
          · refine lv_iload_n hx hb dJ6_numberOfTrailingZeros_0f7a4_74 rfl (lv_at hl 1 rfl) ?_
            refine lv_iload_n hx hb dJ6_numberOfTrailingZeros_0f7a4_75 rfl (lv_at hl 0 rfl) ?_
            refine lv_iconst (v := 1) hx hb dJ6_numberOfTrailingZeros_0f7a4_76 (by decide) ?_
            refine lv_iushr hx hb dJ6_numberOfTrailingZeros_0f7a4_77 rfl ?_
            refine lv_topi (fun v75 ev75 => ?_)
            refine lv_iadd hx hb dJ6_numberOfTrailingZeros_0f7a4_78 ?_
            refine lv_topi (fun v76 ev76 => ?_)
            exact W.iret (v := v76) hx hb hr (fun t ht hW => ⟨v76, rfl, by subst ev52; subst ev53; subst ev54; subst ev72; subst ev75; subst ev76; refine Eq.symm ?_; refine (if_pos c55).trans ?_; refine (if_pos c56).trans ?_; refine (if_neg c57).trans ?_; refine (if_pos c73).trans ?_; refine (if_pos c74).trans ?_; rfl, ht⟩) (fun _ h => by cases h) dJ6_numberOfTrailingZeros_0f7a4_79
          · refine lv_iinc (v := 11) (lv' := [(1, .int 11), (0, .int v72)]) hx hb dJ6_numberOfTrailingZeros_0f7a4_67 hl (k := 1) rfl (by decide) (by decide) rfl (fun ls hl => ?_)
            refine lv_iload_n hx hb dJ6_numberOfTrailingZeros_0f7a4_70 rfl (lv_at hl 1 rfl) ?_
            refine lv_iconst (v := 2) hx hb dJ6_numberOfTrailingZeros_0f7a4_71 (by decide) ?_
            refine lv_iushr hx hb dJ6_numberOfTrailingZeros_0f7a4_72 rfl ?_
            refine lv_topi (fun v77 ev77 => ?_)
            refine lv_istore_n (lv' := [(0, .int v77), (1, .int 11)]) hx hb dJ6_numberOfTrailingZeros_0f7a4_73 rfl hl (by decide) rfl (fun ls hl => ?_)
            refine lv_iload_n hx hb dJ6_numberOfTrailingZeros_0f7a4_74 rfl (lv_at hl 1 rfl) ?_
            refine lv_iload_n hx hb dJ6_numberOfTrailingZeros_0f7a4_75 rfl (lv_at hl 0 rfl) ?_
            refine lv_iconst (v := 1) hx hb dJ6_numberOfTrailingZeros_0f7a4_76 (by decide) ?_
            refine lv_iushr hx hb dJ6_numberOfTrailingZeros_0f7a4_77 rfl ?_
            refine lv_topi (fun v78 ev78 => ?_)
            refine lv_iadd hx hb dJ6_numberOfTrailingZeros_0f7a4_78 ?_
            refine lv_topi (fun v79 ev79 => ?_)
            exact W.iret (v := v79) hx hb hr (fun t ht hW => ⟨v79, rfl, by subst ev52; subst ev53; subst ev54; subst ev72; subst ev77; subst ev78; subst ev79; refine Eq.symm ?_; refine (if_pos c55).trans ?_; refine (if_pos c56).trans ?_; refine (if_neg c57).trans ?_; refine (if_pos c73).trans ?_; refine (if_neg c74).trans ?_; rfl, ht⟩) (fun _ h => by cases h) dJ6_numberOfTrailingZeros_0f7a4_79
        · refine lv_iinc (v := 13) (lv' := [(1, .int 13), (0, .int v72)]) hx hb dJ6_numberOfTrailingZeros_0f7a4_55 hl (k := 1) rfl (by decide) (by decide) rfl (fun ls hl => ?_)
          refine lv_iload_n hx hb dJ6_numberOfTrailingZeros_0f7a4_58 rfl (lv_at hl 1 rfl) ?_
          refine lv_iconst (v := 4) hx hb dJ6_numberOfTrailingZeros_0f7a4_59 (by decide) ?_
          refine lv_iushr hx hb dJ6_numberOfTrailingZeros_0f7a4_60 rfl ?_
          refine lv_topi (fun v80 ev80 => ?_)
          refine lv_istore_n (lv' := [(0, .int v80), (1, .int 13)]) hx hb dJ6_numberOfTrailingZeros_0f7a4_61 rfl hl (by decide) rfl (fun ls hl => ?_)
          refine lv_iload_n hx hb dJ6_numberOfTrailingZeros_0f7a4_62 rfl (lv_at hl 0 rfl) ?_
          refine lv_iconst (v := 4) hx hb dJ6_numberOfTrailingZeros_0f7a4_63 (by decide) ?_
          refine lv_icmp_le (tgt := 74) hx hb dJ6_numberOfTrailingZeros_0f7a4_64 (by decide) (fun c81 => ?_) (fun c81 => ?_)
          · refine lv_iload_n hx hb dJ6_numberOfTrailingZeros_0f7a4_74 rfl (lv_at hl 1 rfl) ?_
            refine lv_iload_n hx hb dJ6_numberOfTrailingZeros_0f7a4_75 rfl (lv_at hl 0 rfl) ?_
            refine lv_iconst (v := 1) hx hb dJ6_numberOfTrailingZeros_0f7a4_76 (by decide) ?_
            refine lv_iushr hx hb dJ6_numberOfTrailingZeros_0f7a4_77 rfl ?_
            refine lv_topi (fun v82 ev82 => ?_)
            refine lv_iadd hx hb dJ6_numberOfTrailingZeros_0f7a4_78 ?_
            refine lv_topi (fun v83 ev83 => ?_)
            exact W.iret (v := v83) hx hb hr (fun t ht hW => ⟨v83, rfl, by subst ev52; subst ev53; subst ev54; subst ev72; subst ev80; subst ev82; subst ev83; refine Eq.symm ?_; refine (if_pos c55).trans ?_; refine (if_pos c56).trans ?_; refine (if_neg c57).trans ?_; refine (if_neg c73).trans ?_; refine (if_pos c81).trans ?_; rfl, ht⟩) (fun _ h => by cases h) dJ6_numberOfTrailingZeros_0f7a4_79
          · refine lv_iinc (v := 15) (lv' := [(1, .int 15), (0, .int v80)]) hx hb dJ6_numberOfTrailingZeros_0f7a4_67 hl (k := 1) rfl (by decide) (by decide) rfl (fun ls hl => ?_)
            refine lv_iload_n hx hb dJ6_numberOfTrailingZeros_0f7a4_70 rfl (lv_at hl 1 rfl) ?_
            refine lv_iconst (v := 2) hx hb dJ6_numberOfTrailingZeros_0f7a4_71 (by decide) ?_
            refine lv_iushr hx hb dJ6_numberOfTrailingZeros_0f7a4_72 rfl ?_
            refine lv_topi (fun v84 ev84 => ?_)
            refine lv_istore_n (lv' := [(0, .int v84), (1, .int 15)]) hx hb dJ6_numberOfTrailingZeros_0f7a4_73 rfl hl (by decide) rfl (fun ls hl => ?_)
            refine lv_iload_n hx hb dJ6_numberOfTrailingZeros_0f7a4_74 rfl (lv_at hl 1 rfl) ?_
            refine lv_iload_n hx hb dJ6_numberOfTrailingZeros_0f7a4_75 rfl (lv_at hl 0 rfl) ?_
            refine lv_iconst (v := 1) hx hb dJ6_numberOfTrailingZeros_0f7a4_76 (by decide) ?_
            refine lv_iushr hx hb dJ6_numberOfTrailingZeros_0f7a4_77 rfl ?_
            refine lv_topi (fun v85 ev85 => ?_)
            refine lv_iadd hx hb dJ6_numberOfTrailingZeros_0f7a4_78 ?_
            refine lv_topi (fun v86 ev86 => ?_)
            exact W.iret (v := v86) hx hb hr (fun t ht hW => ⟨v86, rfl, by subst ev52; subst ev53; subst ev54; subst ev72; subst ev80; subst ev84; subst ev85; subst ev86; refine Eq.symm ?_; refine (if_pos c55).trans ?_; refine (if_pos c56).trans ?_; refine (if_neg c57).trans ?_; refine (if_neg c73).trans ?_; refine (if_neg c81).trans ?_; rfl, ht⟩) (fun _ h => by cases h) dJ6_numberOfTrailingZeros_0f7a4_79
    · refine lv_iinc (v := 17) (lv' := [(1, .int 17), (0, .int v54)]) hx hb dJ6_numberOfTrailingZeros_0f7a4_26 hl (k := 0) rfl (by decide) (by decide) rfl (fun ls hl => ?_)
      refine lv_iload_n hx hb dJ6_numberOfTrailingZeros_0f7a4_29 rfl (lv_at hl 1 rfl) ?_
      refine lv_bipush (v := 16) hx hb dJ6_numberOfTrailingZeros_0f7a4_30 (by decide) ?_
      refine lv_iushr hx hb dJ6_numberOfTrailingZeros_0f7a4_32 rfl ?_
      refine lv_topi (fun v87 ev87 => ?_)
      refine lv_istore_n (lv' := [(0, .int v87), (1, .int 17)]) hx hb dJ6_numberOfTrailingZeros_0f7a4_33 rfl hl (by decide) rfl (fun ls hl => ?_)
      refine lv_iload_n hx hb dJ6_numberOfTrailingZeros_0f7a4_34 rfl (lv_at hl 0 rfl) ?_
      refine lv_sipush (v := 256) hx hb dJ6_numberOfTrailingZeros_0f7a4_35 (by decide) ?_
      refine lv_icmp_le (tgt := 49) hx hb dJ6_numberOfTrailingZeros_0f7a4_38 (by decide) (fun c88 => ?_) (fun c88 => ?_)
      · refine lv_iload_n hx hb dJ6_numberOfTrailingZeros_0f7a4_49 rfl (lv_at hl 0 rfl) ?_
        refine lv_bipush (v := 16) hx hb dJ6_numberOfTrailingZeros_0f7a4_50 (by decide) ?_
        refine lv_icmp_le (tgt := 62) hx hb dJ6_numberOfTrailingZeros_0f7a4_52 (by decide) (fun c89 => ?_) (fun c89 => ?_)
        · refine lv_iload_n hx hb dJ6_numberOfTrailingZeros_0f7a4_62 rfl (lv_at hl 0 rfl) ?_
          refine lv_iconst (v := 4) hx hb dJ6_numberOfTrailingZeros_0f7a4_63 (by decide) ?_
          refine lv_icmp_le (tgt := 74) hx hb dJ6_numberOfTrailingZeros_0f7a4_64 (by decide) (fun c90 => ?_) (fun c90 => ?_)
          · refine lv_iload_n hx hb dJ6_numberOfTrailingZeros_0f7a4_74 rfl (lv_at hl 1 rfl) ?_
            refine lv_iload_n hx hb dJ6_numberOfTrailingZeros_0f7a4_75 rfl (lv_at hl 0 rfl) ?_
            refine lv_iconst (v := 1) hx hb dJ6_numberOfTrailingZeros_0f7a4_76 (by decide) ?_
            refine lv_iushr hx hb dJ6_numberOfTrailingZeros_0f7a4_77 rfl ?_
            refine lv_topi (fun v91 ev91 => ?_)
            refine lv_iadd hx hb dJ6_numberOfTrailingZeros_0f7a4_78 ?_
            refine lv_topi (fun v92 ev92 => ?_)
            exact W.iret (v := v92) hx hb hr (fun t ht hW => ⟨v92, rfl, by subst ev52; subst ev53; subst ev54; subst ev87; subst ev91; subst ev92; refine Eq.symm ?_; refine (if_pos c55).trans ?_; refine (if_neg c56).trans ?_; refine (if_pos c88).trans ?_; refine (if_pos c89).trans ?_; refine (if_pos c90).trans ?_; rfl, ht⟩) (fun _ h => by cases h) dJ6_numberOfTrailingZeros_0f7a4_79
          · refine lv_iinc (v := 19) (lv' := [(1, .int 19), (0, .int v87)]) hx hb dJ6_numberOfTrailingZeros_0f7a4_67 hl (k := 1) rfl (by decide) (by decide) rfl (fun ls hl => ?_)
            refine lv_iload_n hx hb dJ6_numberOfTrailingZeros_0f7a4_70 rfl (lv_at hl 1 rfl) ?_
            refine lv_iconst (v := 2) hx hb dJ6_numberOfTrailingZeros_0f7a4_71 (by decide) ?_
            refine lv_iushr hx hb dJ6_numberOfTrailingZeros_0f7a4_72 rfl ?_
            refine lv_topi (fun v93 ev93 => ?_)
            refine lv_istore_n (lv' := [(0, .int v93), (1, .int 19)]) hx hb dJ6_numberOfTrailingZeros_0f7a4_73 rfl hl (by decide) rfl (fun ls hl => ?_)
            refine lv_iload_n hx hb dJ6_numberOfTrailingZeros_0f7a4_74 rfl (lv_at hl 1 rfl) ?_
            refine lv_iload_n hx hb dJ6_numberOfTrailingZeros_0f7a4_75 rfl (lv_at hl 0 rfl) ?_
            refine lv_iconst (v := 1) hx hb dJ6_numberOfTrailingZeros_0f7a4_76 (by decide) ?_
            refine lv_iushr hx hb dJ6_numberOfTrailingZeros_0f7a4_77 rfl ?_
            refine lv_topi (fun v94 ev94 => ?_)
            refine lv_iadd hx hb dJ6_numberOfTrailingZeros_0f7a4_78 ?_
            refine lv_topi (fun v95 ev95 => ?_)
            exact W.iret (v := v95) hx hb hr (fun t ht hW => ⟨v95, rfl, by subst ev52; subst ev53; subst ev54; subst ev87; subst ev93; subst ev94; subst ev95; refine Eq.symm ?_; refine (if_pos c55).trans ?_; refine (if_neg c56).trans ?_; refine (if_pos c88).trans ?_; refine (if_pos c89).trans ?_; refine (if_neg c90).trans ?_; rfl, ht⟩) (fun _ h => by cases h) dJ6_numberOfTrailingZeros_0f7a4_79
        · refine lv_iinc (v := 21) (lv' := [(1, .int 21), (0, .int v87)]) hx hb dJ6_numberOfTrailingZeros_0f7a4_55 hl (k := 1) rfl (by decide) (by decide) rfl (fun ls hl => ?_)
          refine lv_iload_n hx hb dJ6_numberOfTrailingZeros_0f7a4_58 rfl (lv_at hl 1 rfl) ?_
          refine lv_iconst (v := 4) hx hb dJ6_numberOfTrailingZeros_0f7a4_59 (by decide) ?_
          refine lv_iushr hx hb dJ6_numberOfTrailingZeros_0f7a4_60 rfl ?_
          refine lv_topi (fun v96 ev96 => ?_)
          refine lv_istore_n (lv' := [(0, .int v96), (1, .int 21)]) hx hb dJ6_numberOfTrailingZeros_0f7a4_61 rfl hl (by decide) rfl (fun ls hl => ?_)
          refine lv_iload_n hx hb dJ6_numberOfTrailingZeros_0f7a4_62 rfl (lv_at hl 0 rfl) ?_
          refine lv_iconst (v := 4) hx hb dJ6_numberOfTrailingZeros_0f7a4_63 (by decide) ?_
          refine lv_icmp_le (tgt := 74) hx hb dJ6_numberOfTrailingZeros_0f7a4_64 (by decide) (fun c97 => ?_) (fun c97 => ?_)
          · refine lv_iload_n hx hb dJ6_numberOfTrailingZeros_0f7a4_74 rfl (lv_at hl 1 rfl) ?_
            refine lv_iload_n hx hb dJ6_numberOfTrailingZeros_0f7a4_75 rfl (lv_at hl 0 rfl) ?_
            refine lv_iconst (v := 1) hx hb dJ6_numberOfTrailingZeros_0f7a4_76 (by decide) ?_
            refine lv_iushr hx hb dJ6_numberOfTrailingZeros_0f7a4_77 rfl ?_
            refine lv_topi (fun v98 ev98 => ?_)
            refine lv_iadd hx hb dJ6_numberOfTrailingZeros_0f7a4_78 ?_
            refine lv_topi (fun v99 ev99 => ?_)
            exact W.iret (v := v99) hx hb hr (fun t ht hW => ⟨v99, rfl, by subst ev52; subst ev53; subst ev54; subst ev87; subst ev96; subst ev98; subst ev99; refine Eq.symm ?_; refine (if_pos c55).trans ?_; refine (if_neg c56).trans ?_; refine (if_pos c88).trans ?_; refine (if_neg c89).trans ?_; refine (if_pos c97).trans ?_; rfl, ht⟩) (fun _ h => by cases h) dJ6_numberOfTrailingZeros_0f7a4_79
          · refine lv_iinc (v := 23) (lv' := [(1, .int 23), (0, .int v96)]) hx hb dJ6_numberOfTrailingZeros_0f7a4_67 hl (k := 1) rfl (by decide) (by decide) rfl (fun ls hl => ?_)
            refine lv_iload_n hx hb dJ6_numberOfTrailingZeros_0f7a4_70 rfl (lv_at hl 1 rfl) ?_
            refine lv_iconst (v := 2) hx hb dJ6_numberOfTrailingZeros_0f7a4_71 (by decide) ?_
            refine lv_iushr hx hb dJ6_numberOfTrailingZeros_0f7a4_72 rfl ?_
            refine lv_topi (fun v100 ev100 => ?_)
            refine lv_istore_n (lv' := [(0, .int v100), (1, .int 23)]) hx hb dJ6_numberOfTrailingZeros_0f7a4_73 rfl hl (by decide) rfl (fun ls hl => ?_)
            refine lv_iload_n hx hb dJ6_numberOfTrailingZeros_0f7a4_74 rfl (lv_at hl 1 rfl) ?_
            refine lv_iload_n hx hb dJ6_numberOfTrailingZeros_0f7a4_75 rfl (lv_at hl 0 rfl) ?_
            refine lv_iconst (v := 1) hx hb dJ6_numberOfTrailingZeros_0f7a4_76 (by decide) ?_
            refine lv_iushr hx hb dJ6_numberOfTrailingZeros_0f7a4_77 rfl ?_
            refine lv_topi (fun v101 ev101 => ?_)
            refine lv_iadd hx hb dJ6_numberOfTrailingZeros_0f7a4_78 ?_
            refine lv_topi (fun v102 ev102 => ?_)
            exact W.iret (v := v102) hx hb hr (fun t ht hW => ⟨v102, rfl, by subst ev52; subst ev53; subst ev54; subst ev87; subst ev96; subst ev100; subst ev101; subst ev102; refine Eq.symm ?_; refine (if_pos c55).trans ?_; refine (if_neg c56).trans ?_; refine (if_pos c88).trans ?_; refine (if_neg c89).trans ?_; refine (if_neg c97).trans ?_; rfl, ht⟩) (fun _ h => by cases h) dJ6_numberOfTrailingZeros_0f7a4_79
      · refine lv_iinc (v := 25) (lv' := [(1, .int 25), (0, .int v87)]) hx hb dJ6_numberOfTrailingZeros_0f7a4_41 hl (k := 1) rfl (by decide) (by decide) rfl (fun ls hl => ?_)
        refine lv_iload_n hx hb dJ6_numberOfTrailingZeros_0f7a4_44 rfl (lv_at hl 1 rfl) ?_
        refine lv_bipush (v := 8) hx hb dJ6_numberOfTrailingZeros_0f7a4_45 (by decide) ?_
        refine lv_iushr hx hb dJ6_numberOfTrailingZeros_0f7a4_47 rfl ?_
        refine lv_topi (fun v103 ev103 => ?_)
        refine lv_istore_n (lv' := [(0, .int v103), (1, .int 25)]) hx hb dJ6_numberOfTrailingZeros_0f7a4_48 rfl hl (by decide) rfl (fun ls hl => ?_)
        refine lv_iload_n hx hb dJ6_numberOfTrailingZeros_0f7a4_49 rfl (lv_at hl 0 rfl) ?_
        refine lv_bipush (v := 16) hx hb dJ6_numberOfTrailingZeros_0f7a4_50 (by decide) ?_
        refine lv_icmp_le (tgt := 62) hx hb dJ6_numberOfTrailingZeros_0f7a4_52 (by decide) (fun c104 => ?_) (fun c104 => ?_)
        · refine lv_iload_n hx hb dJ6_numberOfTrailingZeros_0f7a4_62 rfl (lv_at hl 0 rfl) ?_
          refine lv_iconst (v := 4) hx hb dJ6_numberOfTrailingZeros_0f7a4_63 (by decide) ?_
          refine lv_icmp_le (tgt := 74) hx hb dJ6_numberOfTrailingZeros_0f7a4_64 (by decide) (fun c105 => ?_) (fun c105 => ?_)
          · refine lv_iload_n hx hb dJ6_numberOfTrailingZeros_0f7a4_74 rfl (lv_at hl 1 rfl) ?_
            refine lv_iload_n hx hb dJ6_numberOfTrailingZeros_0f7a4_75 rfl (lv_at hl 0 rfl) ?_
            refine lv_iconst (v := 1) hx hb dJ6_numberOfTrailingZeros_0f7a4_76 (by decide) ?_
            refine lv_iushr hx hb dJ6_numberOfTrailingZeros_0f7a4_77 rfl ?_
            refine lv_topi (fun v106 ev106 => ?_)
            refine lv_iadd hx hb dJ6_numberOfTrailingZeros_0f7a4_78 ?_
            refine lv_topi (fun v107 ev107 => ?_)
            exact W.iret (v := v107) hx hb hr (fun t ht hW => ⟨v107, rfl, by subst ev52; subst ev53; subst ev54; subst ev87; subst ev103; subst ev106; subst ev107; refine Eq.symm ?_; refine (if_pos c55).trans ?_; refine (if_neg c56).trans ?_; refine (if_neg c88).trans ?_; refine (if_pos c104).trans ?_; refine (if_pos c105).trans ?_; rfl, ht⟩) (fun _ h => by cases h) dJ6_numberOfTrailingZeros_0f7a4_79
          · refine lv_iinc (v := 27) (lv' := [(1, .int 27), (0, .int v103)]) hx hb dJ6_numberOfTrailingZeros_0f7a4_67 hl (k := 1) rfl (by decide) (by decide) rfl (fun ls hl => ?_)
            refine lv_iload_n hx hb dJ6_numberOfTrailingZeros_0f7a4_70 rfl (lv_at hl 1 rfl) ?_
            refine lv_iconst (v := 2) hx hb dJ6_numberOfTrailingZeros_0f7a4_71 (by decide) ?_
            refine lv_iushr hx hb dJ6_numberOfTrailingZeros_0f7a4_72 rfl ?_
            refine lv_topi (fun v108 ev108 => ?_)
            refine lv_istore_n (lv' := [(0, .int v108), (1, .int 27)]) hx hb dJ6_numberOfTrailingZeros_0f7a4_73 rfl hl (by decide) rfl (fun ls hl => ?_)
            refine lv_iload_n hx hb dJ6_numberOfTrailingZeros_0f7a4_74 rfl (lv_at hl 1 rfl) ?_
            refine lv_iload_n hx hb dJ6_numberOfTrailingZeros_0f7a4_75 rfl (lv_at hl 0 rfl) ?_
            refine lv_iconst (v := 1) hx hb dJ6_numberOfTrailingZeros_0f7a4_76 (by decide) ?_
            refine lv_iushr hx hb dJ6_numberOfTrailingZeros_0f7a4_77 rfl ?_
            refine lv_topi (fun v109 ev109 => ?_)
            refine lv_iadd hx hb dJ6_numberOfTrailingZeros_0f7a4_78 ?_
            refine lv_topi (fun v110 ev110 => ?_)
            exact W.iret (v := v110) hx hb hr (fun t ht hW => ⟨v110, rfl, by subst ev52; subst ev53; subst ev54; subst ev87; subst ev103; subst ev108; subst ev109; subst ev110; refine Eq.symm ?_; refine (if_pos c55).trans ?_; refine (if_neg c56).trans ?_; refine (if_neg c88).trans ?_; refine (if_pos c104).trans ?_; refine (if_neg c105).trans ?_; rfl, ht⟩) (fun _ h => by cases h) dJ6_numberOfTrailingZeros_0f7a4_79
        · refine lv_iinc (v := 29) (lv' := [(1, .int 29), (0, .int v103)]) hx hb dJ6_numberOfTrailingZeros_0f7a4_55 hl (k := 1) rfl (by decide) (by decide) rfl (fun ls hl => ?_)
          refine lv_iload_n hx hb dJ6_numberOfTrailingZeros_0f7a4_58 rfl (lv_at hl 1 rfl) ?_
          refine lv_iconst (v := 4) hx hb dJ6_numberOfTrailingZeros_0f7a4_59 (by decide) ?_
          refine lv_iushr hx hb dJ6_numberOfTrailingZeros_0f7a4_60 rfl ?_
          refine lv_topi (fun v111 ev111 => ?_)
          refine lv_istore_n (lv' := [(0, .int v111), (1, .int 29)]) hx hb dJ6_numberOfTrailingZeros_0f7a4_61 rfl hl (by decide) rfl (fun ls hl => ?_)
          refine lv_iload_n hx hb dJ6_numberOfTrailingZeros_0f7a4_62 rfl (lv_at hl 0 rfl) ?_
          refine lv_iconst (v := 4) hx hb dJ6_numberOfTrailingZeros_0f7a4_63 (by decide) ?_
          refine lv_icmp_le (tgt := 74) hx hb dJ6_numberOfTrailingZeros_0f7a4_64 (by decide) (fun c112 => ?_) (fun c112 => ?_)
          · refine lv_iload_n hx hb dJ6_numberOfTrailingZeros_0f7a4_74 rfl (lv_at hl 1 rfl) ?_
            refine lv_iload_n hx hb dJ6_numberOfTrailingZeros_0f7a4_75 rfl (lv_at hl 0 rfl) ?_
            refine lv_iconst (v := 1) hx hb dJ6_numberOfTrailingZeros_0f7a4_76 (by decide) ?_
            refine lv_iushr hx hb dJ6_numberOfTrailingZeros_0f7a4_77 rfl ?_
            refine lv_topi (fun v113 ev113 => ?_)
            refine lv_iadd hx hb dJ6_numberOfTrailingZeros_0f7a4_78 ?_
            refine lv_topi (fun v114 ev114 => ?_)
            exact W.iret (v := v114) hx hb hr (fun t ht hW => ⟨v114, rfl, by subst ev52; subst ev53; subst ev54; subst ev87; subst ev103; subst ev111; subst ev113; subst ev114; refine Eq.symm ?_; refine (if_pos c55).trans ?_; refine (if_neg c56).trans ?_; refine (if_neg c88).trans ?_; refine (if_neg c104).trans ?_; refine (if_pos c112).trans ?_; rfl, ht⟩) (fun _ h => by cases h) dJ6_numberOfTrailingZeros_0f7a4_79
          · refine lv_iinc (v := 31) (lv' := [(1, .int 31), (0, .int v111)]) hx hb dJ6_numberOfTrailingZeros_0f7a4_67 hl (k := 1) rfl (by decide) (by decide) rfl (fun ls hl => ?_)
            refine lv_iload_n hx hb dJ6_numberOfTrailingZeros_0f7a4_70 rfl (lv_at hl 1 rfl) ?_
            refine lv_iconst (v := 2) hx hb dJ6_numberOfTrailingZeros_0f7a4_71 (by decide) ?_
            refine lv_iushr hx hb dJ6_numberOfTrailingZeros_0f7a4_72 rfl ?_
            refine lv_topi (fun v115 ev115 => ?_)
            refine lv_istore_n (lv' := [(0, .int v115), (1, .int 31)]) hx hb dJ6_numberOfTrailingZeros_0f7a4_73 rfl hl (by decide) rfl (fun ls hl => ?_)
            refine lv_iload_n hx hb dJ6_numberOfTrailingZeros_0f7a4_74 rfl (lv_at hl 1 rfl) ?_
            refine lv_iload_n hx hb dJ6_numberOfTrailingZeros_0f7a4_75 rfl (lv_at hl 0 rfl) ?_
            refine lv_iconst (v := 1) hx hb dJ6_numberOfTrailingZeros_0f7a4_76 (by decide) ?_
            refine lv_iushr hx hb dJ6_numberOfTrailingZeros_0f7a4_77 rfl ?_
            refine lv_topi (fun v116 ev116 => ?_)
            refine lv_iadd hx hb dJ6_numberOfTrailingZeros_0f7a4_78 ?_
            refine lv_topi (fun v117 ev117 => ?_)
            exact W.iret (v := v117) hx hb hr (fun t ht hW => ⟨v117, rfl, by subst ev52; subst ev53; subst ev54; subst ev87; subst ev103; subst ev111; subst ev115; subst ev116; subst ev117; refine Eq.symm ?_; refine (if_pos c55).trans ?_; refine (if_neg c56).trans ?_; refine (if_neg c88).trans ?_; refine (if_neg c104).trans ?_; refine (if_neg c112).trans ?_; rfl, ht⟩) (fun _ h => by cases h) dJ6_numberOfTrailingZeros_0f7a4_79
  · refine lv_iload_n hx hb dJ6_numberOfTrailingZeros_0f7a4_12 rfl (lv_at hl 0 rfl) ?_
    refine lv_bipush (v := 32) hx hb dJ6_numberOfTrailingZeros_0f7a4_13 (by decide) ?_
    refine lv_iand hx hb dJ6_numberOfTrailingZeros_0f7a4_15 ?_
    refine lv_topi (fun v118 ev118 => ?_)
    exact W.iret (v := v118) hx hb hr (fun t ht hW => ⟨v118, rfl, by subst ev52; subst ev53; subst ev54; subst ev118; refine Eq.symm ?_; refine (if_neg c55).trans ?_; rfl, ht⟩) (fun _ h => by cases h) dJ6_numberOfTrailingZeros_0f7a4_16
