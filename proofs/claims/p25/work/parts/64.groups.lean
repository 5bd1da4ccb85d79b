theorem p2_k {α : Type} {I : Nat → Nat → α} {K : Nat → Nat} {a b f g k1 k2 : Nat} {x : α} (hb : K b = k1) (ha : K a = k2) (h : ¬ k1 = k2) : p2 I a f x b g = I b g := p2_ne _ _ (fun z => h (by rw [← hb, ← ha, z.1]))
/-- up behind a restart, behind a crash, as the class has it -/
def sp_rc (u n : Int32) : Int32 := if 0 ≤ n.toInt ∧ n.toInt < 5 then (if sp_cn u n = 0 then u ||| (1 <<< (n &&& 31)) else u) else u
def sp_rcr (u n : Int32) : Int32 := if 0 ≤ n.toInt ∧ n.toInt < 5 then (if sp_cn u n = 0 then 0 else (-1)) else (-1)
def sp_ccu (u n k : Int32) : Int32 := if sp_cn u n = 0 then u else if k < 0 then u else u &&& ((1 <<< (n &&& 31)) ^^^ (-1))
set_option maxHeartbeats 4000000 in
set_option maxRecDepth 100000 in
/-- placeOf -/
theorem c_X5_placeOf (l : Launch) (dC : Nat → ClassId) (dI : Nat → Nat → Nat) (cy : Nat → ClassId) (v : Nat → Nat) (L : List Nat) (K N : Nat → Nat) (T : Nat → Nat → Nat) (I : Nat → Nat → Int32) (Q : Nat → Nat → Option Nat) (J : Nat → Nat → Int32) (xp : Int32) (hC : CT v L K N T I Q) : Met l yX5_placeOf wsX5_placeOf ({ frames := 0, cells := 0, slots := 0, locals := 0 }) (va_Pc [.ref (v 0), .int xp] (pB dC dI cy L (pF cy K N T I Q J))) (vp_Si (fun r => True)) 0 0 (fun _ => False) := by
  refine Met.ofW (cc := cX5_placeOf) (maxL := 4) (ret := (some .int)) (by decide) rfl ?_
  intro p e s m args below meth c s₁ B hml hv
  obtain ⟨rfl, hP, hK, hN⟩ := hv
  have hx := B.exec
  have hb := B.bytes
  have hr := B.returns
  have hts := atoms_spec (ws := wsX5_placeOf) B.pre
  have hown : s.vm.findClass RX5 = some m.cls := findClass_of_methodNamed B.named
  have hlocks := B.notSynchronized
  have hi5 : ∀ w ∈ wsX50, w ∈ wsX5_placeOf := by decide +kernel
  have hl := lv_entry ([.ref (v 0), .int xp]) (n := 4) (Nat.le_of_ble_eq_true rfl)
  rw [lg_entry_eq]
  generalize (lg_sl ([.ref (v 0), .int xp]) ++ List.replicate (4 - (lg_sl ([.ref (v 0), .int xp])).length) Slot.unset).toArray = ls at hl ⊢
  have hl : lv_has ls 4 [(0, .ref (v 0)), (1, .int xp)] := hl
  have hn28 := hN.1
  have hn30 := hN.2.1
  have hn37 := hN.2.2.1
  refine lv_iconst (v := 0) hx hb dX5_placeOf_0 (by decide) ?_
  refine lv_istore_n (lv' := [(2, .int 0), (0, .ref (v 0)), (1, .int xp)]) hx hb dX5_placeOf_1 rfl hl (by decide) rfl (fun ls hl => ?_)
  refine lv_iconst (v := 0) hx hb dX5_placeOf_2 (by decide) ?_
  refine lv_istore_n (lv' := [(3, .int 0), (2, .int 0), (0, .ref (v 0)), (1, .int xp)]) hx hb dX5_placeOf_3 rfl hl (by decide) rfl (fun ls hl => ?_)
  refine wq_gen (fun Qz hQz => ?_)
  have hLP1413 : ∀ (n : Nat) (y1414 y1415 : Int32) (ls : Array Slot), (4 - y1414.toInt).toNat < n → 0 ≤ y1414.toInt → lv_has ls 4 [(3, .int y1414), (2, .int y1415), (0, .ref (v 0)), (1, .int xp)] → W p l e (headSpec wsX5_placeOf ({ frames := 0, cells := 0, slots := 0, locals := 0 })).room s m ([.ref (v 0), .int xp] : List Value).toArray below meth c s.heap [] 0 0 Qz (F0 m 4 ls []) := by
    intro n
    induction n with
    | zero => intro y1414 y1415 ls hms; exact absurd hms (Nat.not_lt_zero _)
    | succ n ih =>
      intro y1414 y1415 ls hms hnn1413 hl
      refine lv_iload_n hx hb dX5_placeOf_4 rfl (lv_at hl 0 rfl) ?_
      refine lv_iconst (v := 4) hx hb dX5_placeOf_5 (by decide) ?_
      refine lv_icmp_ge (tgt := 37) hx hb dX5_placeOf_6 (by decide) (fun c1416 => ?_) (fun c1416 => ?_)
      · refine lv_iload_n hx hb dX5_placeOf_37 rfl (lv_at hl 1 rfl) ?_
        rw [hQz]
        exact W.iret (v := y1415) hx hb hr (fun t ht hW => ⟨y1415, rfl, trivial, ht⟩) (fun _ h => by cases h) dX5_placeOf_38
      · refine lv_iload_n hx hb dX5_placeOf_9 rfl (lv_at hl 0 rfl) ?_
        refine lv_iload_n hx hb dX5_placeOf_10 rfl (lv_at hl 3 rfl) ?_
        refine lv_icmp_ge (tgt := 37) hx hb dX5_placeOf_11 (by decide) (fun c1417 => ?_) (fun c1417 => ?_)
        · refine lv_iload_n hx hb dX5_placeOf_37 rfl (lv_at hl 1 rfl) ?_
          rw [hQz]
          exact W.iret (v := y1415) hx hb hr (fun t ht hW => ⟨y1415, rfl, trivial, ht⟩) (fun _ h => by cases h) dX5_placeOf_38
        · refine lv_iload_n hx hb dX5_placeOf_14 rfl (lv_at hl 1 rfl) ?_
          refine lv_aload_n hx hb dX5_placeOf_15 rfl (lv_at hl 2 rfl) ?_
          obtain ⟨j1418, hj1418⟩ := pG_5 (cy := cy) (N := N) (T := T) (I := I) (Q := Q) (J := J) (hC.at 0 (by decide)) (hC.k 0 (by decide) rfl)
          refine va_get (D := (dC, dI)) (ci := 5) (v := .ref (T (v 0) 0)) (C := RX5) (T := TX5) (N := 6) hx hb hts hi5 hown hK hP j1418 hj1418 rfl 0 (by decide) (hts (.fieldLink RX5 11 "TallyLogs" "partitions" "[LTallyLogs$Partition;") (by decide +kernel)) (fun _ h9 => h9) rfl dX5_placeOf_16 ?_
          refine W.eq (g2 := F0 m 19 ls [.ref (v 1), .int y1415]) (by rw [hC.1.2.2.1.1]) ?_
          refine lv_iload_n hx hb dX5_placeOf_19 rfl (lv_at hl 0 rfl) ?_
          obtain ⟨j1420, hj1420⟩ := pG_10 (cy := cy) (N := N) (T := T) (I := I) (Q := Q) (J := J) (hC.at 1 (by decide)) (hC.k 1 (by decide) rfl)
          refine va_aldq hx hb hK hP j1420 3 hj1420 rfl (xin_of hnn1413 (by have kc := c1416; simp only [xk_lt, xk_le, xk_0, xk_1, xk_2, xk_3, xk_4, xk_5, xk_6, xk_7, xk_8, xk_50] at kc; omega)) dX5_placeOf_20 ?_
          cases hq1422 : Q (v 1) y1414.toNatClampNeg with
          | none =>
            refine W.eq (g2 := F0 m 21 ls [.null, .int y1415]) rfl ?_
            refine lv_ifnonnullN hx hb dX5_placeOf_21 ?_
            refine lv_iconst (v := 0) hx hb dX5_placeOf_24 (by decide) ?_
            refine lv_goto (tgt := 29) hx hb dX5_placeOf_25 (by decide) ?_
            refine lv_iadd hx hb dX5_placeOf_29 ?_
            refine lv_topi (fun v1423 ev1423 => ?_)
            refine lv_istore_n (lv' := [(2, .int v1423), (3, .int y1414), (0, .ref (v 0)), (1, .int xp)]) hx hb dX5_placeOf_30 rfl hl (by decide) rfl (fun ls hl => ?_)
            obtain ⟨v1424, ev1424⟩ : ∃ y : Int32, y = y1414 + Int32.ofInt 1 := ⟨_, rfl⟩
            refine lv_iinc (v := v1424) (lv' := [(3, .int v1424), (2, .int v1423), (0, .ref (v 0)), (1, .int xp)]) hx hb dX5_placeOf_31 hl (k := 1) rfl ev1424.symm (by decide) rfl (fun ls hl => ?_)
            refine lv_goto (tgt := 4) hx hb dX5_placeOf_34 (by decide) ?_
            exact ih _ _ _ (by have kc := c1416; simp only [xk_lt, xk_le, xk_0, xk_1, xk_2, xk_3, xk_4, xk_5, xk_6, xk_7, xk_8, xk_50] at kc; have h9 := xinc (x := y1414) (y := 4) (by rw [xk_lt, xk_4]; omega); rw [ev1424, show y1414 + Int32.ofInt 1 = y1414 + 1 from rfl, h9]; omega) (by have kc := c1416; simp only [xk_lt, xk_le, xk_0, xk_1, xk_2, xk_3, xk_4, xk_5, xk_6, xk_7, xk_8, xk_50] at kc; have h9 := xinc (x := y1414) (y := 4) (by rw [xk_lt, xk_4]; omega); rw [ev1424, show y1414 + Int32.ofInt 1 = y1414 + 1 from rfl, h9]; omega) (lv_sub hl [0, 1, 2, 3] rfl)
          | some b1421 =>
            have hTb1421 := (hC.2.2.2.1 y1414.toNatClampNeg b1421 (vp_lt (xin_of hnn1413 (by have kc := c1416; simp only [xk_lt, xk_le, xk_0, xk_1, xk_2, xk_3, xk_4, xk_5, xk_6, xk_7, xk_8, xk_50] at kc; omega))) hq1422)
            refine W.eq (g2 := F0 m 21 ls [.ref b1421, .int y1415]) rfl ?_
            refine lv_ifnonnull (tgt := 28) hx hb dX5_placeOf_21 (by decide) ?_
            refine lv_iconst (v := 1) hx hb dX5_placeOf_28 (by decide) ?_
            refine lv_iadd hx hb dX5_placeOf_29 ?_
            refine lv_topi (fun v1425 ev1425 => ?_)
            refine lv_istore_n (lv' := [(2, .int v1425), (3, .int y1414), (0, .ref (v 0)), (1, .int xp)]) hx hb dX5_placeOf_30 rfl hl (by decide) rfl (fun ls hl => ?_)
            obtain ⟨v1426, ev1426⟩ : ∃ y : Int32, y = y1414 + Int32.ofInt 1 := ⟨_, rfl⟩
            refine lv_iinc (v := v1426) (lv' := [(3, .int v1426), (2, .int v1425), (0, .ref (v 0)), (1, .int xp)]) hx hb dX5_placeOf_31 hl (k := 1) rfl ev1426.symm (by decide) rfl (fun ls hl => ?_)
            refine lv_goto (tgt := 4) hx hb dX5_placeOf_34 (by decide) ?_
            exact ih _ _ _ (by have kc := c1416; simp only [xk_lt, xk_le, xk_0, xk_1, xk_2, xk_3, xk_4, xk_5, xk_6, xk_7, xk_8, xk_50] at kc; have h9 := xinc (x := y1414) (y := 4) (by rw [xk_lt, xk_4]; omega); rw [ev1426, show y1414 + Int32.ofInt 1 = y1414 + 1 from rfl, h9]; omega) (by have kc := c1416; simp only [xk_lt, xk_le, xk_0, xk_1, xk_2, xk_3, xk_4, xk_5, xk_6, xk_7, xk_8, xk_50] at kc; have h9 := xinc (x := y1414) (y := 4) (by rw [xk_lt, xk_4]; omega); rw [ev1426, show y1414 + Int32.ofInt 1 = y1414 + 1 from rfl, h9]; omega) (lv_sub hl [0, 1, 2, 3] rfl)
  exact hLP1413 _ _ _ _ (Nat.lt_succ_self _) (by decide) (lv_sub hl [0, 1, 2, 3] rfl)
set_option maxHeartbeats 4000000 in
set_option maxRecDepth 100000 in
/-- Group.memberAt -/
theorem c_X1_memberAt (l : Launch) (dC : Nat → ClassId) (dI : Nat → Nat → Nat) (cy : Nat → ClassId) (v : Nat → Nat) (L : List Nat) (K N : Nat → Nat) (T : Nat → Nat → Nat) (I : Nat → Nat → Int32) (Q : Nat → Nat → Option Nat) (J : Nat → Nat → Int32) (a : Nat) (xq : Int32) (hC : CT v L K N T I Q) (ha : a ∈ L) (hk : K a = 1) : Met l yX1_memberAt wsX1_memberAt ({ frames := 1, cells := 0, slots := 0, locals := 21 }) (va_Pc [.ref a, .int xq] (pB dC dI cy L (pF cy K N T I Q J))) (vp_Si (fun r => True)) 0 0 (fun _ => False) := by
  refine Met.ofW (cc := cX1_memberAt) (maxL := 5) (ret := (some .int)) (by decide) rfl ?_
  intro p e s m args below meth c s₁ B hml hv
  obtain ⟨rfl, hP, hK, hN⟩ := hv
  have hx := B.exec
  have hb := B.bytes
  have hr := B.returns
  have hts := atoms_spec (ws := wsX1_memberAt) B.pre
  have hown : s.vm.findClass RX1 = some m.cls := findClass_of_methodNamed B.named
  have hlocks := B.notSynchronized
  have hi1 : ∀ w ∈ wsX10, w ∈ wsX1_memberAt := by decide +kernel
  have hl := lv_entry ([.ref a, .int xq]) (n := 5) (Nat.le_of_ble_eq_true rfl)
  rw [lg_entry_eq]
  generalize (lg_sl ([.ref a, .int xq]) ++ List.replicate (5 - (lg_sl ([.ref a, .int xq])).length) Slot.unset).toArray = ls at hl ⊢
  have hl : lv_has ls 5 [(0, .ref a), (1, .int xq)] := hl
  have hn28 := hN.1
  have hn30 := hN.2.1
  have hn37 := hN.2.2.1
  refine lv_aload_n hx hb dX1_memberAt_0 rfl (lv_at hl 0 rfl) ?_
  obtain ⟨j1427, hj1427⟩ := pG_1 (cy := cy) (N := N) (T := T) (I := I) (Q := Q) (J := J) ha hk
  refine va_get (D := (dC, dI)) (ci := 1) (v := .int (I a 0)) (C := RX1) (T := TX1) (N := 3) hx hb hts hi1 hown hK hP j1427 hj1427 rfl 0 (by decide) (hts (.fieldLink RX1 9 "TallyLogs$Group" "members" "I") (by decide +kernel)) (fun _ h9 => h9) rfl dX1_memberAt_1 ?_
  refine lv_topi (fun x1428 ex1428 => ?_)
  refine vp_callSi (W.runS (As := [.int x1428]) (rest := []) ⟨hx, hb, hml, hown, hts⟩ (c_J6_bitCount_0f7a4 l x1428) (va_cwS 1 hts gX1_memberAt_J6_bitCount_0f7a4 rfl rfl rfl (by decide +kernel) ⟨Nat.le_of_ble_eq_true rfl, Nat.le_of_ble_eq_true rfl⟩) preEq rfl rfl hl.1 rfl (lv_room (Nat.le_of_ble_eq_true rfl)) dX1_memberAt_4 ⟨Nat.le_of_ble_eq_true rfl, Nat.le_of_ble_eq_true rfl⟩) (fun r1429 hr1429 => ?_)
  refine lv_istore_n (lv' := [(2, .int r1429), (0, .ref a), (1, .int xq)]) hx hb dX1_memberAt_7 rfl hl (by decide) rfl (fun ls hl => ?_)
  refine lv_iload_n hx hb dX1_memberAt_8 rfl (lv_at hl 0 rfl) ?_
  refine lv_if_ne (tgt := 14) hx hb dX1_memberAt_9 (by decide) (fun c1430 => ?_) (fun c1430 => ?_)
  · refine lv_iload_n hx hb dX1_memberAt_14 rfl (lv_at hl 2 rfl) ?_
    refine lv_iload_n hx hb dX1_memberAt_15 rfl (lv_at hl 0 rfl) ?_
    refine lv_irem hx hb dX1_memberAt_16 c1430 ?_
    refine lv_topi (fun v1431 ev1431 => ?_)
    refine lv_istore_n (lv' := [(3, .int v1431), (2, .int r1429), (0, .ref a), (1, .int xq)]) hx hb dX1_memberAt_17 rfl hl (by decide) rfl (fun ls hl => ?_)
    refine lv_iconst (v := 0) hx hb dX1_memberAt_18 (by decide) ?_
    refine lv_istore (lv' := [(4, .int 0), (3, .int v1431), (2, .int r1429), (0, .ref a), (1, .int xq)]) hx hb dX1_memberAt_19 hl (by decide) rfl (fun ls hl => ?_)
    refine wq_gen (fun Qz hQz => ?_)
    have hLP1432 : ∀ (n : Nat) (y1433 y1434 : Int32) (ls : Array Slot), (8 - y1433.toInt).toNat < n → 0 ≤ y1433.toInt → lv_has ls 5 [(4, .int y1433), (3, .int y1434), (2, .int r1429), (0, .ref a), (1, .int xq)] → W p l e (headSpec wsX1_memberAt ({ frames := 1, cells := 0, slots := 0, locals := 21 })).room s m ([.ref a, .int xq] : List Value).toArray below meth c s.heap [] 0 0 Qz (F0 m 21 ls []) := by
      intro n
      induction n with
      | zero => intro y1433 y1434 ls hms; exact absurd hms (Nat.not_lt_zero _)
      | succ n ih =>
        intro y1433 y1434 ls hms hnn1432 hl
        refine lv_iload hx hb dX1_memberAt_21 (lv_at hl 0 rfl) ?_
        refine lv_bipush (v := 8) hx hb dX1_memberAt_23 (by decide) ?_
        refine lv_icmp_ge (tgt := 59) hx hb dX1_memberAt_25 (by decide) (fun c1435 => ?_) (fun c1435 => ?_)
        · refine lv_iconst (v := (-1)) hx hb dX1_memberAt_59 (by decide) ?_
          rw [hQz]
          exact W.iret (v := (-1)) hx hb hr (fun t ht hW => ⟨(-1), rfl, trivial, ht⟩) (fun _ h => by cases h) dX1_memberAt_60
        · refine lv_aload_n hx hb dX1_memberAt_28 rfl (lv_at hl 3 rfl) ?_
          obtain ⟨j1436, hj1436⟩ := pG_1 (cy := cy) (N := N) (T := T) (I := I) (Q := Q) (J := J) ha hk
          refine va_get (D := (dC, dI)) (ci := 1) (v := .int (I a 0)) (C := RX1) (T := TX1) (N := 3) hx hb hts hi1 hown hK hP j1436 hj1436 rfl 0 (by decide) (hts (.fieldLink RX1 9 "TallyLogs$Group" "members" "I") (by decide +kernel)) (fun _ h9 => h9) rfl dX1_memberAt_29 ?_
          refine lv_topi (fun x1437 ex1437 => ?_)
          refine lv_iload hx hb dX1_memberAt_32 (lv_at hl 0 rfl) ?_
          refine vp_callSi (va_Run.run (va_runSN (As := [.int x1437, .int y1433]) (rest := []) ⟨hx, hb, hml, hown, hts⟩ (c_X5_contains l x1437 y1433) ⟨va_cnB 2 hts gX1_memberAt_X5_contains_n28 rfl rfl rfl hn28 (hts (.initialized RX5) (by decide +kernel)) (by decide +kernel) ⟨Nat.le_of_ble_eq_true rfl, Nat.le_of_ble_eq_true rfl⟩, hts (.static yX5_contains) (by decide +kernel), trivial⟩ preEq rfl rfl hl.1 rfl (lv_room (Nat.le_of_ble_eq_true rfl)) dX1_memberAt_34 ⟨Nat.le_of_ble_eq_true rfl, Nat.le_of_ble_eq_true rfl⟩)) (fun r1438 hr1438 => ?_)
          refine lv_if_ne (tgt := 43) hx hb dX1_memberAt_37 (by decide) (fun c1439 => ?_) (fun c1439 => ?_)
          · refine lv_iload_n hx hb dX1_memberAt_43 rfl (lv_at hl 1 rfl) ?_
            refine lv_if_ne (tgt := 50) hx hb dX1_memberAt_44 (by decide) (fun c1440 => ?_) (fun c1440 => ?_)
            · obtain ⟨v1441, ev1441⟩ : ∃ y : Int32, y = y1434 + Int32.ofInt (-1) := ⟨_, rfl⟩
              refine lv_iinc (v := v1441) (lv' := [(3, .int v1441), (4, .int y1433), (2, .int r1429), (0, .ref a), (1, .int xq)]) hx hb dX1_memberAt_50 hl (k := 1) rfl ev1441.symm (by decide) rfl (fun ls hl => ?_)
              obtain ⟨v1442, ev1442⟩ : ∃ y : Int32, y = y1433 + Int32.ofInt 1 := ⟨_, rfl⟩
              refine lv_iinc (v := v1442) (lv' := [(4, .int v1442), (3, .int v1441), (2, .int r1429), (0, .ref a), (1, .int xq)]) hx hb dX1_memberAt_53 hl (k := 1) rfl ev1442.symm (by decide) rfl (fun ls hl => ?_)
              refine lv_goto (tgt := 21) hx hb dX1_memberAt_56 (by decide) ?_
              exact ih _ _ _ (by have kc := c1435; simp only [xk_lt, xk_le, xk_0, xk_1, xk_2, xk_3, xk_4, xk_5, xk_6, xk_7, xk_8, xk_50] at kc; have h9 := xinc (x := y1433) (y := 8) (by rw [xk_lt, xk_8]; omega); rw [ev1442, show y1433 + Int32.ofInt 1 = y1433 + 1 from rfl, h9]; omega) (by have kc := c1435; simp only [xk_lt, xk_le, xk_0, xk_1, xk_2, xk_3, xk_4, xk_5, xk_6, xk_7, xk_8, xk_50] at kc; have h9 := xinc (x := y1433) (y := 8) (by rw [xk_lt, xk_8]; omega); rw [ev1442, show y1433 + Int32.ofInt 1 = y1433 + 1 from rfl, h9]; omega) (lv_sub hl [0, 1, 2, 3, 4] rfl)
            · refine lv_iload hx hb dX1_memberAt_47 (lv_at hl 0 rfl) ?_
              rw [hQz]
              exact W.iret (v := y1433) hx hb hr (fun t ht hW => ⟨y1433, rfl, trivial, ht⟩) (fun _ h => by cases h) dX1_memberAt_49
          · refine lv_goto (tgt := 53) hx hb dX1_memberAt_40 (by decide) ?_
            obtain ⟨v1443, ev1443⟩ : ∃ y : Int32, y = y1433 + Int32.ofInt 1 := ⟨_, rfl⟩
            refine lv_iinc (v := v1443) (lv' := [(4, .int v1443), (3, .int y1434), (2, .int r1429), (0, .ref a), (1, .int xq)]) hx hb dX1_memberAt_53 hl (k := 0) rfl ev1443.symm (by decide) rfl (fun ls hl => ?_)
            refine lv_goto (tgt := 21) hx hb dX1_memberAt_56 (by decide) ?_
            exact ih _ _ _ (by have kc := c1435; simp only [xk_lt, xk_le, xk_0, xk_1, xk_2, xk_3, xk_4, xk_5, xk_6, xk_7, xk_8, xk_50] at kc; have h9 := xinc (x := y1433) (y := 8) (by rw [xk_lt, xk_8]; omega); rw [ev1443, show y1433 + Int32.ofInt 1 = y1433 + 1 from rfl, h9]; omega) (by have kc := c1435; simp only [xk_lt, xk_le, xk_0, xk_1, xk_2, xk_3, xk_4, xk_5, xk_6, xk_7, xk_8, xk_50] at kc; have h9 := xinc (x := y1433) (y := 8) (by rw [xk_lt, xk_8]; omega); rw [ev1443, show y1433 + Int32.ofInt 1 = y1433 + 1 from rfl, h9]; omega) (lv_sub hl [0, 1, 2, 3, 4] rfl)
    exact hLP1432 _ _ _ _ (Nat.lt_succ_self _) (by decide) (lv_sub hl [0, 1, 2, 3, 4] rfl)
  · refine lv_iconst (v := (-1)) hx hb dX1_memberAt_12 (by decide) ?_
    exact W.iret (v := (-1)) hx hb hr (fun t ht hW => ⟨(-1), rfl, trivial, ht⟩) (fun _ h => by cases h) dX1_memberAt_13
set_option maxHeartbeats 4000000 in
set_option maxRecDepth 100000 in
/-- Group.offsetFor -/
theorem c_X1_offsetFor (l : Launch) (dC : Nat → ClassId) (dI : Nat → Nat → Nat) (cy : Nat → ClassId) (v : Nat → Nat) (L : List Nat) (K N : Nat → Nat) (T : Nat → Nat → Nat) (I : Nat → Nat → Int32) (Q : Nat → Nat → Option Nat) (J : Nat → Nat → Int32) (gj : Nat) (xp : Int32) (hC : CT v L K N T I Q) (hgj : gj < 4) : Met l yX1_offsetFor wsX1_offsetFor ({ frames := 0, cells := 0, slots := 0, locals := 0 }) (va_Pc [.ref (v (10 + gj)), .int xp] (pB dC dI cy L (pF cy K N T I Q J))) (vp_Si (fun r => True)) 0 0 (fun _ => False) := by
  refine Met.ofW (cc := cX1_offsetFor) (maxL := 2) (ret := (some .int)) (by decide) rfl ?_
  intro p e s m args below meth c s₁ B hml hv
  obtain ⟨rfl, hP, hK, hN⟩ := hv
  have hx := B.exec
  have hb := B.bytes
  have hr := B.returns
  have hts := atoms_spec (ws := wsX1_offsetFor) B.pre
  have hown : s.vm.findClass RX1 = some m.cls := findClass_of_methodNamed B.named
  have hlocks := B.notSynchronized
  have hi1 : ∀ w ∈ wsX10, w ∈ wsX1_offsetFor := by decide +kernel
  have hl := lv_entry ([.ref (v (10 + gj)), .int xp]) (n := 2) (Nat.le_of_ble_eq_true rfl)
  rw [lg_entry_eq]
  generalize (lg_sl ([.ref (v (10 + gj)), .int xp]) ++ List.replicate (2 - (lg_sl ([.ref (v (10 + gj)), .int xp])).length) Slot.unset).toArray = ls at hl ⊢
  have hl : lv_has ls 2 [(0, .ref (v (10 + gj))), (1, .int xp)] := hl
  have hn28 := hN.1
  have hn30 := hN.2.1
  have hn37 := hN.2.2.1
  refine lv_iload_n hx hb dX1_offsetFor_0 rfl (lv_at hl 1 rfl) ?_
  refine lv_if_lt (tgt := 9) hx hb dX1_offsetFor_1 (by decide) (fun c1444 => ?_) (fun c1444 => ?_)
  · refine lv_iconst (v := 0) hx hb dX1_offsetFor_9 (by decide) ?_
    refine lv_goto (tgt := 19) hx hb dX1_offsetFor_10 (by decide) ?_
    exact W.iret (v := 0) hx hb hr (fun t ht hW => ⟨0, rfl, trivial, ht⟩) (fun _ h => by cases h) dX1_offsetFor_19
  · refine lv_iload_n hx hb dX1_offsetFor_4 rfl (lv_at hl 1 rfl) ?_
    refine lv_iconst (v := 4) hx hb dX1_offsetFor_5 (by decide) ?_
    refine lv_icmp_lt (tgt := 13) hx hb dX1_offsetFor_6 (by decide) (fun c1445 => ?_) (fun c1445 => ?_)
    · refine lv_aload_n hx hb dX1_offsetFor_13 rfl (lv_at hl 0 rfl) ?_
      obtain ⟨j1446, hj1446⟩ := pG_1 (cy := cy) (N := N) (T := T) (I := I) (Q := Q) (J := J) (hC.kg hgj).1 (hC.kg hgj).2
      refine va_get (D := (dC, dI)) (ci := 1) (v := .ref (T (v (10 + gj)) 2)) (C := RX1) (T := TX1) (N := 3) hx hb hts hi1 hown hK hP j1446 hj1446 rfl 2 (by decide) (hts (.fieldLink RX1 18 "TallyLogs$Group" "offsets" "[I") (by decide +kernel)) (fun _ h9 => h9) rfl dX1_offsetFor_14 ?_
      refine W.eq (g2 := F0 m 17 ls [.ref (v (14 + gj))]) (by rw [(hC.1.2.2.2 gj hgj).1]) ?_
      refine lv_iload_n hx hb dX1_offsetFor_17 rfl (lv_at hl 1 rfl) ?_
      have hin1447 : vp_in xp 4 := xin_of (by have kc1444 := c1444; have kc1445 := c1445; simp only [xk_lt, xk_le, xk_0, xk_1, xk_2, xk_3, xk_4, xk_5, xk_6, xk_7, xk_8, xk_50] at kc1444 kc1445; omega) (by have kc1444 := c1444; have kc1445 := c1445; simp only [xk_lt, xk_le, xk_0, xk_1, xk_2, xk_3, xk_4, xk_5, xk_6, xk_7, xk_8, xk_50] at kc1444 kc1445; omega)
      obtain ⟨j1448, hj1448⟩ := pG_7 (cy := cy) (N := N) (T := T) (I := I) (Q := Q) (J := J) (hC.ko hgj).1 (hC.ko hgj).2
      refine va_iald hx hb hK hP j1448 0 hj1448 rfl (by rw [(hC.1.2.2.2 gj hgj).2]; exact hin1447) dX1_offsetFor_18 ?_
      refine lv_topi (fun x1449 ex1449 => ?_)
      exact W.iret (v := x1449) hx hb hr (fun t ht hW => ⟨x1449, rfl, trivial, ht⟩) (fun _ h => by cases h) dX1_offsetFor_19
    · refine lv_iconst (v := 0) hx hb dX1_offsetFor_9 (by decide) ?_
      refine lv_goto (tgt := 19) hx hb dX1_offsetFor_10 (by decide) ?_
      exact W.iret (v := 0) hx hb hr (fun t ht hW => ⟨0, rfl, trivial, ht⟩) (fun _ h => by cases h) dX1_offsetFor_19
