set_option maxHeartbeats 4000000 in
set_option maxRecDepth 100000 in
/-- endOf -/
theorem c_X7_endOf (l : Launch) (dC : Nat → ClassId) (dI : Nat → Nat → Nat) (cy : Nat → ClassId) (w : Nat → Nat) (L : List Nat) (K N : Nat → Nat) (T : Nat → Nat → Nat) (Q : Nat → Nat → Option Nat) (I J : Nat → Nat → Int32) (jrb : Nat) (xo : Int32) (hM : MS w L K N T Q) (hjrb : jrb < 20) (h0 : 0 ≤ (I (w (21 + jrb)) 1).toInt) (h1 : (I (w (21 + jrb)) 1).toInt ≤ xo.toInt) (h2 : xo.toInt < (I (w (21 + jrb)) 2).toInt) (h3 : (I (w (21 + jrb)) 2).toInt ≤ (I (w (21 + jrb)) 1).toInt + 80) : Met l yX7_endOf wsX7_endOf ({ frames := 1, cells := 0, slots := 0, locals := 24 }) (va_Pc [.ref (w (21 + jrb)), .int xo] (mB dC dI cy L (wF cy K N T I Q J))) (vp_Si (fun r => True)) 0 0 (fun _ => False) := by
  refine Met.ofW (cc := cX7_endOf) (maxL := 3) (ret := (some .int)) (by decide) rfl ?_
  intro p e s m args below meth c s₁ B hml hv
  obtain ⟨rfl, hP, hK⟩ := hv
  have hx := B.exec
  have hb := B.bytes
  have hr := B.returns
  have hts := atoms_spec (ws := wsX7_endOf) B.pre
  have hown : s.vm.findClass RX7 = some m.cls := findClass_of_methodNamed B.named
  have hlocks := B.notSynchronized
  have hi6 : ∀ w ∈ wsX60, w ∈ wsX7_endOf := by decide +kernel
  have hl := lv_entry ([.ref (w (21 + jrb)), .int xo]) (n := 3) (Nat.le_of_ble_eq_true rfl)
  rw [lg_entry_eq]
  generalize (lg_sl ([.ref (w (21 + jrb)), .int xo]) ++ List.replicate (3 - (lg_sl ([.ref (w (21 + jrb)), .int xo])).length) Slot.unset).toArray = ls at hl ⊢
  have hl : lv_has ls 3 [(0, .ref (w (21 + jrb))), (1, .int xo)] := hl
  refine lv_iload_n hx hb dX7_endOf_0 rfl (lv_at hl 1 rfl) ?_
  refine lv_iconst (v := 1) hx hb dX7_endOf_1 (by decide) ?_
  refine lv_iadd hx hb dX7_endOf_2 ?_
  refine lv_topi (fun v196 ev196 => ?_)
  have tv196 : v196.toInt = xo.toInt + 1 := by rw [ev196]; have := xr_hi (I (w (21 + jrb)) 2); exact xaddk (by decide) (by omega) (by omega)
  refine lv_istore_n (lv' := [(2, .int v196), (0, .ref (w (21 + jrb))), (1, .int xo)]) hx hb dX7_endOf_3 rfl hl (by decide) rfl (fun ls hl => ?_)
  refine wq_gen (fun Qz hQz => ?_)
  have hLP197 : ∀ (n : Nat) (y198 : Int32) (ls : Array Slot), ((I (w (21 + jrb)) 2).toInt - y198.toInt).toNat < n → 0 ≤ y198.toInt → (xo.toInt < y198.toInt) → lv_has ls 3 [(2, .int y198), (0, .ref (w (21 + jrb))), (1, .int xo)] → W p l e (headSpec wsX7_endOf ({ frames := 1, cells := 0, slots := 0, locals := 24 })).room s m ([.ref (w (21 + jrb)), .int xo] : List Value).toArray below meth c s.heap [] 0 0 Qz (F0 m 4 ls []) := by
    intro n
    induction n with
    | zero => intro y198 ls hms; exact absurd hms (Nat.not_lt_zero _)
    | succ n ih197 =>
      intro y198 ls hms hnn197 hiv197 hl
      refine lv_iload_n hx hb dX7_endOf_4 rfl (lv_at hl 0 rfl) ?_
      refine lv_aload_n hx hb dX7_endOf_5 rfl (lv_at hl 1 rfl) ?_
      obtain ⟨j199, hj199⟩ := wG_6 (cy := cy) (N := N) (T := T) (I := I) (Q := Q) (J := J) (hM.lg hjrb).1 (hM.lg hjrb).2
      refine va_get (D := (dC, dI)) (ci := 6) (v := .int (I (w (21 + jrb)) 2)) (C := RX6) (T := TX6) (N := 7) hx hb hts hi6 hown hK hP j199 hj199 rfl 2 (by decide) (hts (.fieldLink RX7 89 "TallyLogsModel$Log" "end" "I") (by decide +kernel)) (fun _ h9 => h9) rfl dX7_endOf_6 ?_
      refine lv_topi (fun x200 ex200 => ?_)
      have tx200 : x200.toInt = (I (w (21 + jrb)) 2).toInt := congrArg Int32.toInt ex200
      refine lv_icmp_ge (tgt := 64) hx hb dX7_endOf_9 (by decide) (fun c201 => ?_) (fun c201 => ?_)
      · have kc201 : x200.toInt ≤ y198.toInt := by have h9 := c201; rw [xk_le] at h9; exact h9
        refine lv_iconst (v := 0) hx hb dX7_endOf_64 (by decide) ?_
        rw [hQz]
        exact W.iret (v := 0) hx hb hr (fun t ht hW => ⟨0, rfl, trivial, ht⟩) (fun _ h => by cases h) dX7_endOf_65
      · have kc201 : ¬ (x200.toInt ≤ y198.toInt) := by have h9 := c201; rw [xk_le] at h9; exact h9
        refine lv_aload_n hx hb dX7_endOf_12 rfl (lv_at hl 1 rfl) ?_
        refine lv_iload_n hx hb dX7_endOf_13 rfl (lv_at hl 0 rfl) ?_
        refine lv_iconst (v := 1) hx hb dX7_endOf_14 (by decide) ?_
        obtain ⟨j203, hj203⟩ := wG_6 (cy := cy) (N := N) (T := T) (I := I) (Q := Q) (J := J) (hM.lg hjrb).1 (hM.lg hjrb).2
        refine vp_callSi (W.runV (As := [.int y198, .int 1]) (rest := []) ⟨hx, hb, hml, hown, hts⟩ (c_X6_get l dC dI cy w L K N T Q I J jrb y198 1 hM hjrb (by omega) (by omega) (by unfold vp_in; decide)) (cwV 2 hts gX7_endOf_X6_get rfl rfl rfl (by decide +kernel) ⟨Nat.le_of_ble_eq_true rfl, Nat.le_of_ble_eq_true rfl⟩) ⟨mb_blind, va_recv hK hP (ci := 6) (q0 := j203) rfl hj203, fun U hU hW => ⟨rfl, mb_pre hP hK hU hW⟩⟩ rfl rfl hl.1 rfl (lv_room (Nat.le_of_ble_eq_true rfl)) dX7_endOf_15 ⟨Nat.le_of_ble_eq_true rfl, Nat.le_of_ble_eq_true rfl⟩) (fun r202 hr202 => ?_)
        refine lv_if_le (tgt := 58) hx hb dX7_endOf_18 (by decide) (fun c204 => ?_) (fun c204 => ?_)
        · have kc204 : r202.toInt ≤ 0 := by have h9 := c204; rw [xk_le, xk_0] at h9; exact h9
          obtain ⟨v205, ev205⟩ : ∃ y : Int32, y = y198 + Int32.ofInt 1 := ⟨_, rfl⟩
          refine lv_iinc (v := v205) (lv' := [(2, .int v205), (0, .ref (w (21 + jrb))), (1, .int xo)]) hx hb dX7_endOf_58 hl (k := 0) rfl ev205.symm (by decide) rfl (fun ls hl => ?_)
          refine lv_goto (tgt := 4) hx hb dX7_endOf_61 (by decide) ?_
          have tv205 : v205.toInt = y198.toInt + 1 := by rw [ev205, show y198 + Int32.ofInt 1 = y198 + 1 from rfl]; exact xinc (y := I (w (21 + jrb)) 2) (by rw [xk_lt]; omega)
          exact ih197 _ _ (by omega) (by omega) (by omega)  (lv_sub hl [0, 1, 2] rfl)
        · have kc204 : ¬ (r202.toInt ≤ 0) := by have h9 := c204; rw [xk_le, xk_0] at h9; exact h9
          refine lv_aload_n hx hb dX7_endOf_21 rfl (lv_at hl 1 rfl) ?_
          refine lv_iload_n hx hb dX7_endOf_22 rfl (lv_at hl 0 rfl) ?_
          refine lv_iconst (v := 2) hx hb dX7_endOf_23 (by decide) ?_
          obtain ⟨j207, hj207⟩ := wG_6 (cy := cy) (N := N) (T := T) (I := I) (Q := Q) (J := J) (hM.lg hjrb).1 (hM.lg hjrb).2
          refine vp_callSi (W.runV (As := [.int y198, .int 2]) (rest := []) ⟨hx, hb, hml, hown, hts⟩ (c_X6_get l dC dI cy w L K N T Q I J jrb y198 2 hM hjrb (by omega) (by omega) (by unfold vp_in; decide)) (cwV 2 hts gX7_endOf_X6_get rfl rfl rfl (by decide +kernel) ⟨Nat.le_of_ble_eq_true rfl, Nat.le_of_ble_eq_true rfl⟩) ⟨mb_blind, va_recv hK hP (ci := 6) (q0 := j207) rfl hj207, fun U hU hW => ⟨rfl, mb_pre hP hK hU hW⟩⟩ rfl rfl hl.1 rfl (lv_room (Nat.le_of_ble_eq_true rfl)) dX7_endOf_24 ⟨Nat.le_of_ble_eq_true rfl, Nat.le_of_ble_eq_true rfl⟩) (fun r206 hr206 => ?_)
          refine lv_aload_n hx hb dX7_endOf_27 rfl (lv_at hl 1 rfl) ?_
          refine lv_iload_n hx hb dX7_endOf_28 rfl (lv_at hl 2 rfl) ?_
          refine lv_iconst (v := 2) hx hb dX7_endOf_29 (by decide) ?_
          obtain ⟨j209, hj209⟩ := wG_6 (cy := cy) (N := N) (T := T) (I := I) (Q := Q) (J := J) (hM.lg hjrb).1 (hM.lg hjrb).2
          refine vp_callSi (W.runV (As := [.int xo, .int 2]) (rest := [.int r206]) ⟨hx, hb, hml, hown, hts⟩ (c_X6_get l dC dI cy w L K N T Q I J jrb xo 2 hM hjrb (by omega) (by omega) (by unfold vp_in; decide)) (cwV 2 hts gX7_endOf_X6_get rfl rfl rfl (by decide +kernel) ⟨Nat.le_of_ble_eq_true rfl, Nat.le_of_ble_eq_true rfl⟩) ⟨mb_blind, va_recv hK hP (ci := 6) (q0 := j209) rfl hj209, fun U hU hW => ⟨rfl, mb_pre hP hK hU hW⟩⟩ rfl rfl hl.1 rfl (lv_room (Nat.le_of_ble_eq_true rfl)) dX7_endOf_30 ⟨Nat.le_of_ble_eq_true rfl, Nat.le_of_ble_eq_true rfl⟩) (fun r208 hr208 => ?_)
          refine lv_icmp_ne (tgt := 58) hx hb dX7_endOf_33 (by decide) (fun c210 => ?_) (fun c210 => ?_)
          · have kc210 : ¬ (r206.toInt = r208.toInt) := by have h9 := c210; rw [xk_eq] at h9; exact h9
            obtain ⟨v211, ev211⟩ : ∃ y : Int32, y = y198 + Int32.ofInt 1 := ⟨_, rfl⟩
            refine lv_iinc (v := v211) (lv' := [(2, .int v211), (0, .ref (w (21 + jrb))), (1, .int xo)]) hx hb dX7_endOf_58 hl (k := 0) rfl ev211.symm (by decide) rfl (fun ls hl => ?_)
            refine lv_goto (tgt := 4) hx hb dX7_endOf_61 (by decide) ?_
            have tv211 : v211.toInt = y198.toInt + 1 := by rw [ev211, show y198 + Int32.ofInt 1 = y198 + 1 from rfl]; exact xinc (y := I (w (21 + jrb)) 2) (by rw [xk_lt]; omega)
            exact ih197 _ _ (by omega) (by omega) (by omega)  (lv_sub hl [0, 1, 2] rfl)
          · have kc210 : r206.toInt = r208.toInt := by have h9 := c210; rw [xk_eq] at h9; exact h9
            refine lv_aload_n hx hb dX7_endOf_36 rfl (lv_at hl 1 rfl) ?_
            refine lv_iload_n hx hb dX7_endOf_37 rfl (lv_at hl 0 rfl) ?_
            refine lv_iconst (v := 3) hx hb dX7_endOf_38 (by decide) ?_
            obtain ⟨j213, hj213⟩ := wG_6 (cy := cy) (N := N) (T := T) (I := I) (Q := Q) (J := J) (hM.lg hjrb).1 (hM.lg hjrb).2
            refine vp_callSi (W.runV (As := [.int y198, .int 3]) (rest := []) ⟨hx, hb, hml, hown, hts⟩ (c_X6_get l dC dI cy w L K N T Q I J jrb y198 3 hM hjrb (by omega) (by omega) (by unfold vp_in; decide)) (cwV 2 hts gX7_endOf_X6_get rfl rfl rfl (by decide +kernel) ⟨Nat.le_of_ble_eq_true rfl, Nat.le_of_ble_eq_true rfl⟩) ⟨mb_blind, va_recv hK hP (ci := 6) (q0 := j213) rfl hj213, fun U hU hW => ⟨rfl, mb_pre hP hK hU hW⟩⟩ rfl rfl hl.1 rfl (lv_room (Nat.le_of_ble_eq_true rfl)) dX7_endOf_39 ⟨Nat.le_of_ble_eq_true rfl, Nat.le_of_ble_eq_true rfl⟩) (fun r212 hr212 => ?_)
            refine lv_aload_n hx hb dX7_endOf_42 rfl (lv_at hl 1 rfl) ?_
            refine lv_iload_n hx hb dX7_endOf_43 rfl (lv_at hl 2 rfl) ?_
            refine lv_iconst (v := 3) hx hb dX7_endOf_44 (by decide) ?_
            obtain ⟨j215, hj215⟩ := wG_6 (cy := cy) (N := N) (T := T) (I := I) (Q := Q) (J := J) (hM.lg hjrb).1 (hM.lg hjrb).2
            refine vp_callSi (W.runV (As := [.int xo, .int 3]) (rest := [.int r212]) ⟨hx, hb, hml, hown, hts⟩ (c_X6_get l dC dI cy w L K N T Q I J jrb xo 3 hM hjrb (by omega) (by omega) (by unfold vp_in; decide)) (cwV 2 hts gX7_endOf_X6_get rfl rfl rfl (by decide +kernel) ⟨Nat.le_of_ble_eq_true rfl, Nat.le_of_ble_eq_true rfl⟩) ⟨mb_blind, va_recv hK hP (ci := 6) (q0 := j215) rfl hj215, fun U hU hW => ⟨rfl, mb_pre hP hK hU hW⟩⟩ rfl rfl hl.1 rfl (lv_room (Nat.le_of_ble_eq_true rfl)) dX7_endOf_45 ⟨Nat.le_of_ble_eq_true rfl, Nat.le_of_ble_eq_true rfl⟩) (fun r214 hr214 => ?_)
            refine lv_icmp_ne (tgt := 58) hx hb dX7_endOf_48 (by decide) (fun c216 => ?_) (fun c216 => ?_)
            · have kc216 : ¬ (r212.toInt = r214.toInt) := by have h9 := c216; rw [xk_eq] at h9; exact h9
              obtain ⟨v217, ev217⟩ : ∃ y : Int32, y = y198 + Int32.ofInt 1 := ⟨_, rfl⟩
              refine lv_iinc (v := v217) (lv' := [(2, .int v217), (0, .ref (w (21 + jrb))), (1, .int xo)]) hx hb dX7_endOf_58 hl (k := 0) rfl ev217.symm (by decide) rfl (fun ls hl => ?_)
              refine lv_goto (tgt := 4) hx hb dX7_endOf_61 (by decide) ?_
              have tv217 : v217.toInt = y198.toInt + 1 := by rw [ev217, show y198 + Int32.ofInt 1 = y198 + 1 from rfl]; exact xinc (y := I (w (21 + jrb)) 2) (by rw [xk_lt]; omega)
              exact ih197 _ _ (by omega) (by omega) (by omega)  (lv_sub hl [0, 1, 2] rfl)
            · have kc216 : r212.toInt = r214.toInt := by have h9 := c216; rw [xk_eq] at h9; exact h9
              refine lv_aload_n hx hb dX7_endOf_51 rfl (lv_at hl 1 rfl) ?_
              refine lv_iload_n hx hb dX7_endOf_52 rfl (lv_at hl 0 rfl) ?_
              refine lv_iconst (v := 1) hx hb dX7_endOf_53 (by decide) ?_
              obtain ⟨j219, hj219⟩ := wG_6 (cy := cy) (N := N) (T := T) (I := I) (Q := Q) (J := J) (hM.lg hjrb).1 (hM.lg hjrb).2
              refine vp_callSi (W.runV (As := [.int y198, .int 1]) (rest := []) ⟨hx, hb, hml, hown, hts⟩ (c_X6_get l dC dI cy w L K N T Q I J jrb y198 1 hM hjrb (by omega) (by omega) (by unfold vp_in; decide)) (cwV 2 hts gX7_endOf_X6_get rfl rfl rfl (by decide +kernel) ⟨Nat.le_of_ble_eq_true rfl, Nat.le_of_ble_eq_true rfl⟩) ⟨mb_blind, va_recv hK hP (ci := 6) (q0 := j219) rfl hj219, fun U hU hW => ⟨rfl, mb_pre hP hK hU hW⟩⟩ rfl rfl hl.1 rfl (lv_room (Nat.le_of_ble_eq_true rfl)) dX7_endOf_54 ⟨Nat.le_of_ble_eq_true rfl, Nat.le_of_ble_eq_true rfl⟩) (fun r218 hr218 => ?_)
              rw [hQz]
              exact W.iret (v := r218) hx hb hr (fun t ht hW => ⟨r218, rfl, trivial, ht⟩) (fun _ h => by cases h) dX7_endOf_57
  exact hLP197 _ _ _ (Nat.lt_succ_self _) (by omega) (by omega)  (lv_sub hl [0, 1, 2] rfl)
set_option maxHeartbeats 4000000 in
set_option maxRecDepth 100000 in
/-- firstOpen -/
theorem c_X7_firstOpen (l : Launch) (dC : Nat → ClassId) (dI : Nat → Nat → Nat) (cy : Nat → ClassId) (w : Nat → Nat) (L : List Nat) (K N : Nat → Nat) (T : Nat → Nat → Nat) (Q : Nat → Nat → Option Nat) (I J : Nat → Nat → Int32) (jrb : Nat) (hM : MS w L K N T Q) (hjrb : jrb < 20) (h0 : 0 ≤ (I (w (21 + jrb)) 1).toInt) (h3 : (I (w (21 + jrb)) 2).toInt ≤ (I (w (21 + jrb)) 1).toInt + 80) : Met l yX7_firstOpen wsX7_firstOpen ({ frames := 2, cells := 0, slots := 0, locals := 48 }) (va_Pc [.ref (w (21 + jrb))] (mB dC dI cy L (wF cy K N T I Q J))) (vp_Si (fun r => True)) 0 0 (fun _ => False) := by
  refine Met.ofW (cc := cX7_firstOpen) (maxL := 2) (ret := (some .int)) (by decide) rfl ?_
  intro p e s m args below meth c s₁ B hml hv
  obtain ⟨rfl, hP, hK⟩ := hv
  have hx := B.exec
  have hb := B.bytes
  have hr := B.returns
  have hts := atoms_spec (ws := wsX7_firstOpen) B.pre
  have hown : s.vm.findClass RX7 = some m.cls := findClass_of_methodNamed B.named
  have hlocks := B.notSynchronized
  have hi6 : ∀ w ∈ wsX60, w ∈ wsX7_firstOpen := by decide +kernel
  have hl := lv_entry ([.ref (w (21 + jrb))]) (n := 2) (Nat.le_of_ble_eq_true rfl)
  rw [lg_entry_eq]
  generalize (lg_sl ([.ref (w (21 + jrb))]) ++ List.replicate (2 - (lg_sl ([.ref (w (21 + jrb))])).length) Slot.unset).toArray = ls at hl ⊢
  have hl : lv_has ls 2 [(0, .ref (w (21 + jrb)))] := hl
  refine lv_aload_n hx hb dX7_firstOpen_0 rfl (lv_at hl 0 rfl) ?_
  obtain ⟨j220, hj220⟩ := wG_6 (cy := cy) (N := N) (T := T) (I := I) (Q := Q) (J := J) (hM.lg hjrb).1 (hM.lg hjrb).2
  refine va_get (D := (dC, dI)) (ci := 6) (v := .int (I (w (21 + jrb)) 1)) (C := RX6) (T := TX6) (N := 7) hx hb hts hi6 hown hK hP j220 hj220 rfl 1 (by decide) (hts (.fieldLink RX7 134 "TallyLogsModel$Log" "start" "I") (by decide +kernel)) (fun _ h9 => h9) rfl dX7_firstOpen_1 ?_
  refine lv_topi (fun x221 ex221 => ?_)
  have tx221 : x221.toInt = (I (w (21 + jrb)) 1).toInt := congrArg Int32.toInt ex221
  refine lv_istore_n (lv' := [(1, .int x221), (0, .ref (w (21 + jrb)))]) hx hb dX7_firstOpen_4 rfl hl (by decide) rfl (fun ls hl => ?_)
  refine wq_gen (fun Qz hQz => ?_)
  have hLP222 : ∀ (n : Nat) (y223 : Int32) (ls : Array Slot), ((I (w (21 + jrb)) 2).toInt - y223.toInt).toNat < n → 0 ≤ y223.toInt → ((I (w (21 + jrb)) 1).toInt ≤ y223.toInt) → lv_has ls 2 [(1, .int y223), (0, .ref (w (21 + jrb)))] → W p l e (headSpec wsX7_firstOpen ({ frames := 2, cells := 0, slots := 0, locals := 48 })).room s m ([.ref (w (21 + jrb))] : List Value).toArray below meth c s.heap [] 0 0 Qz (F0 m 5 ls []) := by
    intro n
    induction n with
    | zero => intro y223 ls hms; exact absurd hms (Nat.not_lt_zero _)
    | succ n ih222 =>
      intro y223 ls hms hnn222 hiv222 hl
      refine lv_iload_n hx hb dX7_firstOpen_5 rfl (lv_at hl 0 rfl) ?_
      refine lv_aload_n hx hb dX7_firstOpen_6 rfl (lv_at hl 1 rfl) ?_
      obtain ⟨j224, hj224⟩ := wG_6 (cy := cy) (N := N) (T := T) (I := I) (Q := Q) (J := J) (hM.lg hjrb).1 (hM.lg hjrb).2
      refine va_get (D := (dC, dI)) (ci := 6) (v := .int (I (w (21 + jrb)) 2)) (C := RX6) (T := TX6) (N := 7) hx hb hts hi6 hown hK hP j224 hj224 rfl 2 (by decide) (hts (.fieldLink RX7 89 "TallyLogsModel$Log" "end" "I") (by decide +kernel)) (fun _ h9 => h9) rfl dX7_firstOpen_7 ?_
      refine lv_topi (fun x225 ex225 => ?_)
      have tx225 : x225.toInt = (I (w (21 + jrb)) 2).toInt := congrArg Int32.toInt ex225
      refine lv_icmp_ge (tgt := 49) hx hb dX7_firstOpen_10 (by decide) (fun c226 => ?_) (fun c226 => ?_)
      · have kc226 : x225.toInt ≤ y223.toInt := by have h9 := c226; rw [xk_le] at h9; exact h9
        refine lv_aload_n hx hb dX7_firstOpen_49 rfl (lv_at hl 1 rfl) ?_
        obtain ⟨j227, hj227⟩ := wG_6 (cy := cy) (N := N) (T := T) (I := I) (Q := Q) (J := J) (hM.lg hjrb).1 (hM.lg hjrb).2
        refine va_get (D := (dC, dI)) (ci := 6) (v := .int (I (w (21 + jrb)) 2)) (C := RX6) (T := TX6) (N := 7) hx hb hts hi6 hown hK hP j227 hj227 rfl 2 (by decide) (hts (.fieldLink RX7 89 "TallyLogsModel$Log" "end" "I") (by decide +kernel)) (fun _ h9 => h9) rfl dX7_firstOpen_50 ?_
        refine lv_topi (fun x228 ex228 => ?_)
        have tx228 : x228.toInt = (I (w (21 + jrb)) 2).toInt := congrArg Int32.toInt ex228
        rw [hQz]
        exact W.iret (v := x228) hx hb hr (fun t ht hW => ⟨x228, rfl, trivial, ht⟩) (fun _ h => by cases h) dX7_firstOpen_53
      · have kc226 : ¬ (x225.toInt ≤ y223.toInt) := by have h9 := c226; rw [xk_le] at h9; exact h9
        refine lv_aload_n hx hb dX7_firstOpen_13 rfl (lv_at hl 1 rfl) ?_
        refine lv_iload_n hx hb dX7_firstOpen_14 rfl (lv_at hl 0 rfl) ?_
        refine lv_iconst (v := 1) hx hb dX7_firstOpen_15 (by decide) ?_
        obtain ⟨j230, hj230⟩ := wG_6 (cy := cy) (N := N) (T := T) (I := I) (Q := Q) (J := J) (hM.lg hjrb).1 (hM.lg hjrb).2
        refine vp_callSi (W.runV (As := [.int y223, .int 1]) (rest := []) ⟨hx, hb, hml, hown, hts⟩ (c_X6_get l dC dI cy w L K N T Q I J jrb y223 1 hM hjrb (by omega) (by omega) (by unfold vp_in; decide)) (cwV 2 hts gX7_firstOpen_X6_get rfl rfl rfl (by decide +kernel) ⟨Nat.le_of_ble_eq_true rfl, Nat.le_of_ble_eq_true rfl⟩) ⟨mb_blind, va_recv hK hP (ci := 6) (q0 := j230) rfl hj230, fun U hU hW => ⟨rfl, mb_pre hP hK hU hW⟩⟩ rfl rfl hl.1 rfl (lv_room (Nat.le_of_ble_eq_true rfl)) dX7_firstOpen_16 ⟨Nat.le_of_ble_eq_true rfl, Nat.le_of_ble_eq_true rfl⟩) (fun r229 hr229 => ?_)
        refine lv_if_ne (tgt := 43) hx hb dX7_firstOpen_19 (by decide) (fun c231 => ?_) (fun c231 => ?_)
        · have kc231 : ¬ (r229.toInt = 0) := by have h9 := c231; rw [xk_eq, xk_0] at h9; exact h9
          obtain ⟨v232, ev232⟩ : ∃ y : Int32, y = y223 + Int32.ofInt 1 := ⟨_, rfl⟩
          refine lv_iinc (v := v232) (lv' := [(1, .int v232), (0, .ref (w (21 + jrb)))]) hx hb dX7_firstOpen_43 hl (k := 0) rfl ev232.symm (by decide) rfl (fun ls hl => ?_)
          refine lv_goto (tgt := 5) hx hb dX7_firstOpen_46 (by decide) ?_
          have tv232 : v232.toInt = y223.toInt + 1 := by rw [ev232, show y223 + Int32.ofInt 1 = y223 + 1 from rfl]; exact xinc (y := I (w (21 + jrb)) 2) (by rw [xk_lt]; omega)
          exact ih222 _ _ (by omega) (by omega) (by omega)  (lv_sub hl [0, 1] rfl)
        · have kc231 : r229.toInt = 0 := by have h9 := c231; rw [xk_eq, xk_0] at h9; exact h9
          refine lv_aload_n hx hb dX7_firstOpen_22 rfl (lv_at hl 1 rfl) ?_
          refine lv_iload_n hx hb dX7_firstOpen_23 rfl (lv_at hl 0 rfl) ?_
          refine lv_bipush (v := 7) hx hb dX7_firstOpen_24 (by decide) ?_
          obtain ⟨j234, hj234⟩ := wG_6 (cy := cy) (N := N) (T := T) (I := I) (Q := Q) (J := J) (hM.lg hjrb).1 (hM.lg hjrb).2
          refine vp_callSi (W.runV (As := [.int y223, .int 7]) (rest := []) ⟨hx, hb, hml, hown, hts⟩ (c_X6_get l dC dI cy w L K N T Q I J jrb y223 7 hM hjrb (by omega) (by omega) (by unfold vp_in; decide)) (cwV 2 hts gX7_firstOpen_X6_get rfl rfl rfl (by decide +kernel) ⟨Nat.le_of_ble_eq_true rfl, Nat.le_of_ble_eq_true rfl⟩) ⟨mb_blind, va_recv hK hP (ci := 6) (q0 := j234) rfl hj234, fun U hU hW => ⟨rfl, mb_pre hP hK hU hW⟩⟩ rfl rfl hl.1 rfl (lv_room (Nat.le_of_ble_eq_true rfl)) dX7_firstOpen_26 ⟨Nat.le_of_ble_eq_true rfl, Nat.le_of_ble_eq_true rfl⟩) (fun r233 hr233 => ?_)
          refine lv_iconst (v := 1) hx hb dX7_firstOpen_29 (by decide) ?_
          refine lv_icmp_ne (tgt := 43) hx hb dX7_firstOpen_30 (by decide) (fun c235 => ?_) (fun c235 => ?_)
          · have kc235 : ¬ (r233.toInt = 1) := by have h9 := c235; rw [xk_eq, xk_1] at h9; exact h9
            obtain ⟨v236, ev236⟩ : ∃ y : Int32, y = y223 + Int32.ofInt 1 := ⟨_, rfl⟩
            refine lv_iinc (v := v236) (lv' := [(1, .int v236), (0, .ref (w (21 + jrb)))]) hx hb dX7_firstOpen_43 hl (k := 0) rfl ev236.symm (by decide) rfl (fun ls hl => ?_)
            refine lv_goto (tgt := 5) hx hb dX7_firstOpen_46 (by decide) ?_
            have tv236 : v236.toInt = y223.toInt + 1 := by rw [ev236, show y223 + Int32.ofInt 1 = y223 + 1 from rfl]; exact xinc (y := I (w (21 + jrb)) 2) (by rw [xk_lt]; omega)
            exact ih222 _ _ (by omega) (by omega) (by omega)  (lv_sub hl [0, 1] rfl)
          · have kc235 : r233.toInt = 1 := by have h9 := c235; rw [xk_eq, xk_1] at h9; exact h9
            refine lv_aload_n hx hb dX7_firstOpen_33 rfl (lv_at hl 1 rfl) ?_
            refine lv_iload_n hx hb dX7_firstOpen_34 rfl (lv_at hl 0 rfl) ?_
            refine vp_callSi (W.runS (As := [.ref (w (21 + jrb)), .int y223]) (rest := []) ⟨hx, hb, hml, hown, hts⟩ (c_X7_endOf l dC dI cy w L K N T Q I J jrb y223 hM hjrb (by omega) (by omega) (by omega) (by omega)) (va_cwS 2 hts gX7_firstOpen_X7_endOf rfl rfl rfl (by decide +kernel) ⟨Nat.le_of_ble_eq_true rfl, Nat.le_of_ble_eq_true rfl⟩) ⟨mb_blind, fun U hU hW => ⟨rfl, mb_pre hP hK hU hW⟩⟩ rfl rfl hl.1 rfl (lv_room (Nat.le_of_ble_eq_true rfl)) dX7_firstOpen_35 ⟨Nat.le_of_ble_eq_true rfl, Nat.le_of_ble_eq_true rfl⟩) (fun r237 hr237 => ?_)
            refine lv_if_ne (tgt := 43) hx hb dX7_firstOpen_38 (by decide) (fun c238 => ?_) (fun c238 => ?_)
            · have kc238 : ¬ (r237.toInt = 0) := by have h9 := c238; rw [xk_eq, xk_0] at h9; exact h9
              obtain ⟨v239, ev239⟩ : ∃ y : Int32, y = y223 + Int32.ofInt 1 := ⟨_, rfl⟩
              refine lv_iinc (v := v239) (lv' := [(1, .int v239), (0, .ref (w (21 + jrb)))]) hx hb dX7_firstOpen_43 hl (k := 0) rfl ev239.symm (by decide) rfl (fun ls hl => ?_)
              refine lv_goto (tgt := 5) hx hb dX7_firstOpen_46 (by decide) ?_
              have tv239 : v239.toInt = y223.toInt + 1 := by rw [ev239, show y223 + Int32.ofInt 1 = y223 + 1 from rfl]; exact xinc (y := I (w (21 + jrb)) 2) (by rw [xk_lt]; omega)
              exact ih222 _ _ (by omega) (by omega) (by omega)  (lv_sub hl [0, 1] rfl)
            · have kc238 : r237.toInt = 0 := by have h9 := c238; rw [xk_eq, xk_0] at h9; exact h9
              refine lv_iload_n hx hb dX7_firstOpen_41 rfl (lv_at hl 0 rfl) ?_
              rw [hQz]
              exact W.iret (v := y223) hx hb hr (fun t ht hW => ⟨y223, rfl, trivial, ht⟩) (fun _ h => by cases h) dX7_firstOpen_42
  exact hLP222 _ _ _ (Nat.lt_succ_self _) (by omega) (by omega)  (lv_sub hl [0, 1] rfl)
