set_option maxHeartbeats 4000000 in
set_option maxRecDepth 100000 in
theorem lw_c12 {p : Program} {e : Env} {s : State} {m : MethodId} {below : List Frame} {meth : Method} {c : Code} (l : Launch) {b Ls : Nat} {xs : Nat → Int32} (C0 : lw_At p s m meth c b Ls xs) {dC : Nat → ClassId} {dI : Nat → Nat → Nat} {cy : Nat → ClassId} {v : Nat → Nat} {N : Nat → Nat} {cz : Nat → ClassId} {w : Nat → Nat} {Lm : List Nat} {Km Nm : Nat → Nat} {Tm : Nat → Nat → Nat} {Qm : Nat → Nat → Option Nat} (hKx : va_K (dC, dI) vwCl (pTy cy) s) (hKm : va_K (dC, dI) vwCl (mTy cz) s) (hN : xN s) (hM : MS w Lm Km Nm Tm Qm) (hLs : Ls ≤ 448) (k : Nat) (hk : 7 * k + 7 ≤ Ls) (hT : ∀ (L : List Nat) (K : Nat → Nat) (T : Nat → Nat → Nat) (I : Nat → Nat → Int32) (Q : Nat → Nat → Option Nat) (J Im Jm : Nat → Nat → Int32) (H : Heap) (locs : List Loc) (ls : Array Slot), lwI dC dI cy v N cz w Lm Km Nm Tm Qm (fun q : Nat => s.heap.size ≤ q) H (k + 1) L K T I Q J Im Jm → va_S (fun q : Nat => s.heap.size ≤ q) s.heap H locs → lv_has ls 4 [(3, .int (nI (7 * k))), (2, .ref (w 0)), (1, .ref (v 0)), (0, .ref b)] → W p l e room_1 s m #[Value.ref b] below meth c H locs (79 + 12 * (k + 1)) (13150 + 346 * (k + 1)) (lw_Z below #[Value.ref b] s) (F0 m 1052 ls [])) (L : List Nat) (K : Nat → Nat) (T : Nat → Nat → Nat) (I : Nat → Nat → Int32) (Q : Nat → Nat → Option Nat) (J Im Jm : Nat → Nat → Int32) (H : Heap) (locs : List Loc) (ls : Array Slot) (h0 : lwI dC dI cy v N cz w Lm Km Nm Tm Qm (fun q : Nat => s.heap.size ≤ q) H k L K T I Q J Im Jm) (hS : va_S (fun q : Nat => s.heap.size ≤ q) s.heap H locs) (hl : lv_has ls 4 [(3, .int (nI (7 * k))), (2, .ref (w 0)), (1, .ref (v 0)), (0, .ref b)]) : W p l e room_1 s m #[Value.ref b] below meth c H locs (79 + 12 * k) (13150 + 346 * k) (lw_Z below #[Value.ref b] s) (F0 m 626 ls []) := by
  obtain ⟨hx, hb, hr, hml, hown, hts0, hX, hbl, hlocks, hgv⟩ := id C0
  have hown : s.vm.findClass RL = some m.cls := hown
  have hts : ∀ w ∈ wsL_law, w.before #[Value.ref b] s = true := fun w h => hts0 w (wsL_law_in w h)
  have hA : ∀ q : Nat, s.heap.size ≤ q → (fun q : Nat => s.heap.size ≤ q) q := fun _ h => h
  have hbA : ¬ (fun q : Nat => s.heap.size ≤ q) b := Nat.not_le.mpr hbl
  obtain ⟨hC, hI, hSR, hP, hD⟩ := h0
  obtain ⟨pa, ra, σ, hE, hMR, hSK⟩ := hSR
  have hLA : LA (5 * (k : Int)) σ := fun j hj => hMR.ml hj (hI.1 j hj)
  have hB : B5 (σ.1 0 0) := by rw [← hMR.1.1]; exact hI.2.2
  refine lv_aload_n hx hb dL_law_626 rfl (lv_at hl 2 rfl) ?_
  refine lv_aload_n hx hb dL_law_627 rfl (lv_at hl 3 rfl) ?_
  refine lv_iload_n hx hb dL_law_628 rfl (lv_at hl 0 rfl) ?_
  refine lv_iconst (v := 1) hx hb dL_law_629 (by decide) ?_
  refine lv_iadd hx hb dL_law_630 ?_
  refine lv_topi (fun v2037 ev2037 => ?_)
  obtain rfl : v2037 = nI (7 * k + 1) := ev2037.trans (nI_add (7 * k) 1)
  refine va_sld hx hb hX hbl hbA hS (nI_in (by omega) (by omega)) dL_law_631 ?_
  refine W.eq (g2 := F0 m 632 ls [.int (xs (7 * k + 1)), .ref (v 0)]) (by rw [nI_clamp (by omega)]) ?_
  refine lv_aload_n hx hb dL_law_632 rfl (lv_at hl 3 rfl) ?_
  refine lv_iload_n hx hb dL_law_633 rfl (lv_at hl 0 rfl) ?_
  refine lv_iconst (v := 2) hx hb dL_law_634 (by decide) ?_
  refine lv_iadd hx hb dL_law_635 ?_
  refine lv_topi (fun v2038 ev2038 => ?_)
  obtain rfl : v2038 = nI (7 * k + 2) := ev2038.trans (nI_add (7 * k) 2)
  refine va_sld hx hb hX hbl hbA hS (nI_in (by omega) (by omega)) dL_law_636 ?_
  refine W.eq (g2 := F0 m 637 ls [.int (xs (7 * k + 2)), .int (xs (7 * k + 1)), .ref (v 0)]) (by rw [nI_clamp (by omega)]) ?_
  obtain ⟨j2040, hj2040⟩ := pG_5 (cy := cy) (N := N) (T := T) (I := I) (Q := Q) (J := J) (hC.at 0 (by decide)) (hC.k 0 (by decide) rfl)
  refine vp_callSi (W.runV (As := [.int (xs (7 * k + 1)), .int (xs (7 * k + 2))]) (rest := []) ⟨hx, hb, hml, hown, hts⟩ (c_X5_owner l dC dI cy v L K N T I Q J (xs (7 * k + 1)) (xs (7 * k + 2)) hC) (cwV 2 hts gL_law_X5_owner rfl rfl rfl (by decide +kernel) ⟨Nat.le_of_ble_eq_true rfl, Nat.le_of_ble_eq_true rfl⟩) ⟨pb_blind, va_recv hKx (xP_l hP) (ci := 5) (q0 := j2040) rfl hj2040, fun U hU hW => ⟨rfl, pb_pre (xP_l hP) hKx hN hU hW⟩⟩ rfl rfl hl.1 rfl (lv_room (Nat.le_of_ble_eq_true rfl)) dL_law_637 ⟨show (79 + 12 * k) + 0 ≤ 600000 by omega, show (13150 + 346 * k) + 0 ≤ 7302250 by omega⟩) (fun r2039 hr2039 => ?_)
  refine lv_pop hx hb dL_law_640 rfl ?_
  refine lv_aload_n hx hb dL_law_641 rfl (lv_at hl 1 rfl) ?_
  refine lv_aload_n hx hb dL_law_642 rfl (lv_at hl 3 rfl) ?_
  refine lv_iload_n hx hb dL_law_643 rfl (lv_at hl 0 rfl) ?_
  refine lv_iconst (v := 1) hx hb dL_law_644 (by decide) ?_
  refine lv_iadd hx hb dL_law_645 ?_
  refine lv_topi (fun v2041 ev2041 => ?_)
  obtain rfl : v2041 = nI (7 * k + 1) := ev2041.trans (nI_add (7 * k) 1)
  refine va_sld hx hb hX hbl hbA hS (nI_in (by omega) (by omega)) dL_law_646 ?_
  refine W.eq (g2 := F0 m 647 ls [.int (xs (7 * k + 1)), .ref (w 0)]) (by rw [nI_clamp (by omega)]) ?_
  refine lv_aload_n hx hb dL_law_647 rfl (lv_at hl 3 rfl) ?_
  refine lv_iload_n hx hb dL_law_648 rfl (lv_at hl 0 rfl) ?_
  refine lv_iconst (v := 2) hx hb dL_law_649 (by decide) ?_
  refine lv_iadd hx hb dL_law_650 ?_
  refine lv_topi (fun v2042 ev2042 => ?_)
  obtain rfl : v2042 = nI (7 * k + 2) := ev2042.trans (nI_add (7 * k) 2)
  refine va_sld hx hb hX hbl hbA hS (nI_in (by omega) (by omega)) dL_law_651 ?_
  refine W.eq (g2 := F0 m 652 ls [.int (xs (7 * k + 2)), .int (xs (7 * k + 1)), .ref (w 0)]) (by rw [nI_clamp (by omega)]) ?_
  obtain ⟨j2044, hj2044⟩ := wG_7 (cy := cz) (N := Nm) (T := Tm) (I := Im) (Q := Qm) (J := Jm) (hM.at 0 (by decide)) (hM.k 0 (by decide) rfl)
  refine vp_callSi (W.runV (As := [.int (xs (7 * k + 1)), .int (xs (7 * k + 2))]) (rest := []) ⟨hx, hb, hml, hown, hts⟩ (c_X7_owner l dC dI cz w Lm Km Nm Tm Qm Im Jm (xs (7 * k + 1)) (xs (7 * k + 2)) hM) (cwV 2 hts gL_law_X7_owner rfl rfl rfl (by decide +kernel) ⟨Nat.le_of_ble_eq_true rfl, Nat.le_of_ble_eq_true rfl⟩) ⟨mb_blind, va_recv hKm (xP_r hP) (ci := 7) (q0 := j2044) rfl hj2044, fun U hU hW => ⟨rfl, mb_pre (xP_r hP) hKm hU hW⟩⟩ rfl rfl hl.1 rfl (lv_room (Nat.le_of_ble_eq_true rfl)) dL_law_652 ⟨show (79 + 12 * k) + 0 ≤ 600000 by omega, show (13150 + 346 * k) + 0 ≤ 7302250 by omega⟩) (fun r2043 hr2043 => ?_)
  refine lv_pop hx hb dL_law_655 rfl ?_
  refine lv_goto (tgt := 1052) hx hb dL_law_656 (by decide) ?_
  refine W.widen (k := 79 + 12 * (k + 1)) (n := 13150 + 346 * (k + 1)) (by omega) (by omega) ?_
  exact hT L K T I Q J Im Jm H locs ls ⟨hC, hI.mono (by omega), ⟨pa, ra, σ, hE, hMR, hSK⟩, hP, hD⟩ hS hl
set_option maxHeartbeats 4000000 in
set_option maxRecDepth 100000 in
theorem lw_c13 {p : Program} {e : Env} {s : State} {m : MethodId} {below : List Frame} {meth : Method} {c : Code} (l : Launch) {b Ls : Nat} {xs : Nat → Int32} (C0 : lw_At p s m meth c b Ls xs) {dC : Nat → ClassId} {dI : Nat → Nat → Nat} {cy : Nat → ClassId} {v : Nat → Nat} {N : Nat → Nat} {cz : Nat → ClassId} {w : Nat → Nat} {Lm : List Nat} {Km Nm : Nat → Nat} {Tm : Nat → Nat → Nat} {Qm : Nat → Nat → Option Nat} (hKx : va_K (dC, dI) vwCl (pTy cy) s) (hKm : va_K (dC, dI) vwCl (mTy cz) s) (hN : xN s) (hM : MS w Lm Km Nm Tm Qm) (hLs : Ls ≤ 448) (k : Nat) (hk : 7 * k + 7 ≤ Ls) (hT : ∀ (L : List Nat) (K : Nat → Nat) (T : Nat → Nat → Nat) (I : Nat → Nat → Int32) (Q : Nat → Nat → Option Nat) (J Im Jm : Nat → Nat → Int32) (H : Heap) (locs : List Loc) (ls : Array Slot), lwI dC dI cy v N cz w Lm Km Nm Tm Qm (fun q : Nat => s.heap.size ≤ q) H (k + 1) L K T I Q J Im Jm → va_S (fun q : Nat => s.heap.size ≤ q) s.heap H locs → lv_has ls 4 [(3, .int (nI (7 * k))), (2, .ref (w 0)), (1, .ref (v 0)), (0, .ref b)] → W p l e room_1 s m #[Value.ref b] below meth c H locs (79 + 12 * (k + 1)) (13150 + 346 * (k + 1)) (lw_Z below #[Value.ref b] s) (F0 m 1052 ls [])) (L : List Nat) (K : Nat → Nat) (T : Nat → Nat → Nat) (I : Nat → Nat → Int32) (Q : Nat → Nat → Option Nat) (J Im Jm : Nat → Nat → Int32) (H : Heap) (locs : List Loc) (ls : Array Slot) (h0 : lwI dC dI cy v N cz w Lm Km Nm Tm Qm (fun q : Nat => s.heap.size ≤ q) H k L K T I Q J Im Jm) (hS : va_S (fun q : Nat => s.heap.size ≤ q) s.heap H locs) (hl : lv_has ls 4 [(3, .int (nI (7 * k))), (2, .ref (w 0)), (1, .ref (v 0)), (0, .ref b)]) : W p l e room_1 s m #[Value.ref b] below meth c H locs (79 + 12 * k) (13150 + 346 * k) (lw_Z below #[Value.ref b] s) (F0 m 659 ls []) := by
  obtain ⟨hx, hb, hr, hml, hown, hts0, hX, hbl, hlocks, hgv⟩ := id C0
  have hown : s.vm.findClass RL = some m.cls := hown
  have hts : ∀ w ∈ wsL_law, w.before #[Value.ref b] s = true := fun w h => hts0 w (wsL_law_in w h)
  have hA : ∀ q : Nat, s.heap.size ≤ q → (fun q : Nat => s.heap.size ≤ q) q := fun _ h => h
  have hbA : ¬ (fun q : Nat => s.heap.size ≤ q) b := Nat.not_le.mpr hbl
  obtain ⟨hC, hI, hSR, hP, hD⟩ := h0
  obtain ⟨pa, ra, σ, hE, hMR, hSK⟩ := hSR
  have hLA : LA (5 * (k : Int)) σ := fun j hj => hMR.ml hj (hI.1 j hj)
  have hB : B5 (σ.1 0 0) := by rw [← hMR.1.1]; exact hI.2.2
  refine lv_aload_n hx hb dL_law_659 rfl (lv_at hl 2 rfl) ?_
  refine lv_aload_n hx hb dL_law_660 rfl (lv_at hl 3 rfl) ?_
  refine lv_iload_n hx hb dL_law_661 rfl (lv_at hl 0 rfl) ?_
  refine lv_iconst (v := 1) hx hb dL_law_662 (by decide) ?_
  refine lv_iadd hx hb dL_law_663 ?_
  refine lv_topi (fun v2045 ev2045 => ?_)
  obtain rfl : v2045 = nI (7 * k + 1) := ev2045.trans (nI_add (7 * k) 1)
  refine va_sld hx hb hX hbl hbA hS (nI_in (by omega) (by omega)) dL_law_664 ?_
  refine W.eq (g2 := F0 m 665 ls [.int (xs (7 * k + 1)), .ref (v 0)]) (by rw [nI_clamp (by omega)]) ?_
  refine lv_aload_n hx hb dL_law_665 rfl (lv_at hl 3 rfl) ?_
  refine lv_iload_n hx hb dL_law_666 rfl (lv_at hl 0 rfl) ?_
  refine lv_iconst (v := 2) hx hb dL_law_667 (by decide) ?_
  refine lv_iadd hx hb dL_law_668 ?_
  refine lv_topi (fun v2046 ev2046 => ?_)
  obtain rfl : v2046 = nI (7 * k + 2) := ev2046.trans (nI_add (7 * k) 2)
  refine va_sld hx hb hX hbl hbA hS (nI_in (by omega) (by omega)) dL_law_669 ?_
  refine W.eq (g2 := F0 m 670 ls [.int (xs (7 * k + 2)), .int (xs (7 * k + 1)), .ref (v 0)]) (by rw [nI_clamp (by omega)]) ?_
  refine lv_aload_n hx hb dL_law_670 rfl (lv_at hl 3 rfl) ?_
  refine lv_iload_n hx hb dL_law_671 rfl (lv_at hl 0 rfl) ?_
  refine lv_iconst (v := 3) hx hb dL_law_672 (by decide) ?_
  refine lv_iadd hx hb dL_law_673 ?_
  refine lv_topi (fun v2047 ev2047 => ?_)
  obtain rfl : v2047 = nI (7 * k + 3) := ev2047.trans (nI_add (7 * k) 3)
  refine va_sld hx hb hX hbl hbA hS (nI_in (by omega) (by omega)) dL_law_674 ?_
  refine W.eq (g2 := F0 m 675 ls [.int (xs (7 * k + 3)), .int (xs (7 * k + 2)), .int (xs (7 * k + 1)), .ref (v 0)]) (by rw [nI_clamp (by omega)]) ?_
  refine lv_aload_n hx hb dL_law_675 rfl (lv_at hl 3 rfl) ?_
  refine lv_iload_n hx hb dL_law_676 rfl (lv_at hl 0 rfl) ?_
  refine lv_iconst (v := 4) hx hb dL_law_677 (by decide) ?_
  refine lv_iadd hx hb dL_law_678 ?_
  refine lv_topi (fun v2048 ev2048 => ?_)
  obtain rfl : v2048 = nI (7 * k + 4) := ev2048.trans (nI_add (7 * k) 4)
  refine va_sld hx hb hX hbl hbA hS (nI_in (by omega) (by omega)) dL_law_679 ?_
  refine W.eq (g2 := F0 m 680 ls [.int (xs (7 * k + 4)), .int (xs (7 * k + 3)), .int (xs (7 * k + 2)), .int (xs (7 * k + 1)), .ref (v 0)]) (by rw [nI_clamp (by omega)]) ?_
  refine lv_aload_n hx hb dL_law_680 rfl (lv_at hl 3 rfl) ?_
  refine lv_iload_n hx hb dL_law_681 rfl (lv_at hl 0 rfl) ?_
  refine lv_iconst (v := 5) hx hb dL_law_682 (by decide) ?_
  refine lv_iadd hx hb dL_law_683 ?_
  refine lv_topi (fun v2049 ev2049 => ?_)
  obtain rfl : v2049 = nI (7 * k + 5) := ev2049.trans (nI_add (7 * k) 5)
  refine va_sld hx hb hX hbl hbA hS (nI_in (by omega) (by omega)) dL_law_684 ?_
  refine W.eq (g2 := F0 m 685 ls [.int (xs (7 * k + 5)), .int (xs (7 * k + 4)), .int (xs (7 * k + 3)), .int (xs (7 * k + 2)), .int (xs (7 * k + 1)), .ref (v 0)]) (by rw [nI_clamp (by omega)]) ?_
  obtain ⟨j2051, hj2051⟩ := pG_5 (cy := cy) (N := N) (T := T) (I := I) (Q := Q) (J := J) (hC.at 0 (by decide)) (hC.k 0 (by decide) rfl)
  have hFc := xfree (xD_l hD) hS hA
  refine va_calli (va_runV (As := [.int (xs (7 * k + 1)), .int (xs (7 * k + 2)), .int (xs (7 * k + 3)), .int (xs (7 * k + 4)), .int (xs (7 * k + 5))]) (rest := []) ⟨hx, hb, hml, hown, hts⟩ (g_X5_move l dC dI cy v L K N T I Q J H.size (xs (7 * k + 1)) (xs (7 * k + 2)) (xs (7 * k + 3)) (xs (7 * k + 4)) (xs (7 * k + 5)) hC) (cwV 5 hts gL_law_X5_move rfl rfl rfl (by decide +kernel) ⟨Nat.le_of_ble_eq_true rfl, Nat.le_of_ble_eq_true rfl⟩) ⟨pw_blind, va_recv hKx (xP_l hP) (ci := 5) (q0 := j2051) rfl hj2051, fun U hU hW => ⟨rfl, pw_pre (xP_l hP) hKx hN (xD_l hD) hU hW⟩⟩ rfl rfl hl.1 rfl (lv_room (Nat.le_of_ble_eq_true rfl)) dL_law_685 ⟨show (79 + 12 * k) + 0 ≤ 600000 by omega, show (13150 + 346 * k) + 0 ≤ 7302250 by omega⟩) hS (fun q _ h => hFc q h) hFc (fun r2050 d9 t H locs ht hvm hr2050 hB9 hz1 hk1 hS => ?_)
  obtain ⟨I, Q, J⟩ := d9
  obtain ⟨hP1, hK1, hD1⟩ := hB9
  rw [ht] at hP1
  have hPn : va_P (dC, dI) vwCl (va_pl L (pF cy K N T I Q J) ++ va_pl Lm (wF cz Km Nm Tm Im Qm Jm)) H := va_P.app hP1 (xj_keep hP hD hk1)
  have hD : va_D (fun q : Nat => s.heap.size ≤ q) (va_pl L (pF cy K N T I Q J) ++ va_pl Lm (wF cz Km Nm Tm Im Qm Jm)) := xj_D hP hD hD1 hFc
  have hP := hPn
  obtain ⟨⟨_, eI9, eQ9, eJ9⟩, hr5⟩ := hr2050
  obtain ⟨hE2, hr5⟩ := hE.mv9 hr5 eI9 eQ9 eJ9
  have hE2 : REP v pa ra L K N T I Q J (kxo (qMv σ (xs (7 * k + 1)) (xs (7 * k + 2)) (xs (7 * k + 3)) (xs (7 * k + 4)) (xs (7 * k + 5))).1) (qMv σ (xs (7 * k + 1)) (xs (7 * k + 2)) (xs (7 * k + 3)) (xs (7 * k + 4)) (xs (7 * k + 5))).1 := hE2
  have hr5 : r2050 = (qMv σ (xs (7 * k + 1)) (xs (7 * k + 2)) (xs (7 * k + 3)) (xs (7 * k + 4)) (xs (7 * k + 5))).2 := hr5
  have hC := hE2.ct
  refine lv_pop hx hb dL_law_688 rfl ?_
  refine lv_aload_n hx hb dL_law_689 rfl (lv_at hl 1 rfl) ?_
  refine lv_aload_n hx hb dL_law_690 rfl (lv_at hl 3 rfl) ?_
  refine lv_iload_n hx hb dL_law_691 rfl (lv_at hl 0 rfl) ?_
  refine lv_iconst (v := 1) hx hb dL_law_692 (by decide) ?_
  refine lv_iadd hx hb dL_law_693 ?_
  refine lv_topi (fun v2052 ev2052 => ?_)
  obtain rfl : v2052 = nI (7 * k + 1) := ev2052.trans (nI_add (7 * k) 1)
  refine va_sld hx hb hX hbl hbA hS (nI_in (by omega) (by omega)) dL_law_694 ?_
  refine W.eq (g2 := F0 m 695 ls [.int (xs (7 * k + 1)), .ref (w 0)]) (by rw [nI_clamp (by omega)]) ?_
  refine lv_aload_n hx hb dL_law_695 rfl (lv_at hl 3 rfl) ?_
  refine lv_iload_n hx hb dL_law_696 rfl (lv_at hl 0 rfl) ?_
  refine lv_iconst (v := 2) hx hb dL_law_697 (by decide) ?_
  refine lv_iadd hx hb dL_law_698 ?_
  refine lv_topi (fun v2053 ev2053 => ?_)
  obtain rfl : v2053 = nI (7 * k + 2) := ev2053.trans (nI_add (7 * k) 2)
  refine va_sld hx hb hX hbl hbA hS (nI_in (by omega) (by omega)) dL_law_699 ?_
  refine W.eq (g2 := F0 m 700 ls [.int (xs (7 * k + 2)), .int (xs (7 * k + 1)), .ref (w 0)]) (by rw [nI_clamp (by omega)]) ?_
  refine lv_aload_n hx hb dL_law_700 rfl (lv_at hl 3 rfl) ?_
  refine lv_iload_n hx hb dL_law_701 rfl (lv_at hl 0 rfl) ?_
  refine lv_iconst (v := 3) hx hb dL_law_702 (by decide) ?_
  refine lv_iadd hx hb dL_law_703 ?_
  refine lv_topi (fun v2054 ev2054 => ?_)
  obtain rfl : v2054 = nI (7 * k + 3) := ev2054.trans (nI_add (7 * k) 3)
  refine va_sld hx hb hX hbl hbA hS (nI_in (by omega) (by omega)) dL_law_704 ?_
  refine W.eq (g2 := F0 m 705 ls [.int (xs (7 * k + 3)), .int (xs (7 * k + 2)), .int (xs (7 * k + 1)), .ref (w 0)]) (by rw [nI_clamp (by omega)]) ?_
  refine lv_aload_n hx hb dL_law_705 rfl (lv_at hl 3 rfl) ?_
  refine lv_iload_n hx hb dL_law_706 rfl (lv_at hl 0 rfl) ?_
  refine lv_iconst (v := 4) hx hb dL_law_707 (by decide) ?_
  refine lv_iadd hx hb dL_law_708 ?_
  refine lv_topi (fun v2055 ev2055 => ?_)
  obtain rfl : v2055 = nI (7 * k + 4) := ev2055.trans (nI_add (7 * k) 4)
  refine va_sld hx hb hX hbl hbA hS (nI_in (by omega) (by omega)) dL_law_709 ?_
  refine W.eq (g2 := F0 m 710 ls [.int (xs (7 * k + 4)), .int (xs (7 * k + 3)), .int (xs (7 * k + 2)), .int (xs (7 * k + 1)), .ref (w 0)]) (by rw [nI_clamp (by omega)]) ?_
  refine lv_aload_n hx hb dL_law_710 rfl (lv_at hl 3 rfl) ?_
  refine lv_iload_n hx hb dL_law_711 rfl (lv_at hl 0 rfl) ?_
  refine lv_iconst (v := 5) hx hb dL_law_712 (by decide) ?_
  refine lv_iadd hx hb dL_law_713 ?_
  refine lv_topi (fun v2056 ev2056 => ?_)
  obtain rfl : v2056 = nI (7 * k + 5) := ev2056.trans (nI_add (7 * k) 5)
  refine va_sld hx hb hX hbl hbA hS (nI_in (by omega) (by omega)) dL_law_714 ?_
  refine W.eq (g2 := F0 m 715 ls [.int (xs (7 * k + 5)), .int (xs (7 * k + 4)), .int (xs (7 * k + 3)), .int (xs (7 * k + 2)), .int (xs (7 * k + 1)), .ref (w 0)]) (by rw [nI_clamp (by omega)]) ?_
  obtain ⟨j2058, hj2058⟩ := wG_7 (cy := cz) (N := Nm) (T := Tm) (I := Im) (Q := Qm) (J := Jm) (hM.at 0 (by decide)) (hM.k 0 (by decide) rfl)
  have hPs := xswapP hP
  have hDs := xswapD hD
  have hFc := xfree (xD_l hDs) hS hA
  refine va_calli (va_runV (As := [.int (xs (7 * k + 1)), .int (xs (7 * k + 2)), .int (xs (7 * k + 3)), .int (xs (7 * k + 4)), .int (xs (7 * k + 5))]) (rest := []) ⟨hx, hb, hml, hown, hts⟩ (g_X7_move l dC dI cz w Lm Km Nm Tm Qm Im Jm H.size (5 * (k : Int)) (xs (7 * k + 1)) (xs (7 * k + 2)) (xs (7 * k + 3)) (xs (7 * k + 4)) (xs (7 * k + 5)) hM hI (by omega)) (cwV 5 hts gL_law_X7_move rfl rfl rfl (by decide +kernel) ⟨Nat.le_of_ble_eq_true rfl, Nat.le_of_ble_eq_true rfl⟩) ⟨mw_blind, va_recv hKm (xP_r hP) (ci := 7) (q0 := j2058) rfl hj2058, fun U hU hW => ⟨rfl, mw_pre (xP_r hP) hKm (xD_r hD) hU hW⟩⟩ rfl rfl hl.1 rfl (lv_room (Nat.le_of_ble_eq_true rfl)) dL_law_715 ⟨show (79 + 12 * k + 0) + 0 ≤ 600000 by omega, show (13150 + 346 * k + 0) + 0 ≤ 7302250 by omega⟩) hS (fun q _ h => hFc q h) hFc (fun r2057 d9 t H locs ht hvm hr2057 hB9 hz1 hk1 hS => ?_)
  obtain ⟨Im, Jm⟩ := d9
  obtain ⟨hP1, hK1, hD1⟩ := hB9
  rw [ht] at hP1
  have hP : va_P (dC, dI) vwCl (va_pl L (pF cy K N T I Q J) ++ va_pl Lm (wF cz Km Nm Tm Im Qm Jm)) H := va_P.app (xj_keep hPs hDs hk1) hP1
  have hD : va_D (fun q : Nat => s.heap.size ≤ q) (va_pl L (pF cy K N T I Q J) ++ va_pl Lm (wF cz Km Nm Tm Im Qm Jm)) := xswapD (xj_D hPs hDs hD1 hFc)
  have hI : MI w (5 * (k : Int) + 5) Im Jm := hr2057.1
  obtain ⟨hMR2, hr7⟩ := hMR.mv9 hM hr2057.2.2.2 hr2057.2.1 hr2057.2.2.1
  have hMR2 : MR w Im Jm (qMv σ (xs (7 * k + 1)) (xs (7 * k + 2)) (xs (7 * k + 3)) (xs (7 * k + 4)) (xs (7 * k + 5))).1 := hMR2
  have hr7 : r2057 = (qMv σ (xs (7 * k + 1)) (xs (7 * k + 2)) (xs (7 * k + 3)) (xs (7 * k + 4)) (xs (7 * k + 5))).2 := hr7
  refine lv_pop hx hb dL_law_718 rfl ?_
  refine lv_goto (tgt := 1052) hx hb dL_law_719 (by decide) ?_
  refine W.widen (k := 79 + 12 * (k + 1)) (n := 13150 + 346 * (k + 1)) (by omega) (by omega) ?_
  exact hT L K T I Q J Im Jm H locs ls ⟨hC, hI.mono (by omega), ⟨pa, ra, _, hE2, hMR2, hSK.mv (xs (7 * k + 1)) (xs (7 * k + 2)) (xs (7 * k + 3)) (xs (7 * k + 4)) (xs (7 * k + 5))⟩, hP, hD⟩ hS hl
set_option maxHeartbeats 4000000 in
set_option maxRecDepth 100000 in
theorem lw_c14 {p : Program} {e : Env} {s : State} {m : MethodId} {below : List Frame} {meth : Method} {c : Code} (l : Launch) {b Ls : Nat} {xs : Nat → Int32} (C0 : lw_At p s m meth c b Ls xs) {dC : Nat → ClassId} {dI : Nat → Nat → Nat} {cy : Nat → ClassId} {v : Nat → Nat} {N : Nat → Nat} {cz : Nat → ClassId} {w : Nat → Nat} {Lm : List Nat} {Km Nm : Nat → Nat} {Tm : Nat → Nat → Nat} {Qm : Nat → Nat → Option Nat} (hKx : va_K (dC, dI) vwCl (pTy cy) s) (hKm : va_K (dC, dI) vwCl (mTy cz) s) (hN : xN s) (hM : MS w Lm Km Nm Tm Qm) (hLs : Ls ≤ 448) (k : Nat) (hk : 7 * k + 7 ≤ Ls) (hT : ∀ (L : List Nat) (K : Nat → Nat) (T : Nat → Nat → Nat) (I : Nat → Nat → Int32) (Q : Nat → Nat → Option Nat) (J Im Jm : Nat → Nat → Int32) (H : Heap) (locs : List Loc) (ls : Array Slot), lwI dC dI cy v N cz w Lm Km Nm Tm Qm (fun q : Nat => s.heap.size ≤ q) H (k + 1) L K T I Q J Im Jm → va_S (fun q : Nat => s.heap.size ≤ q) s.heap H locs → lv_has ls 4 [(3, .int (nI (7 * k))), (2, .ref (w 0)), (1, .ref (v 0)), (0, .ref b)] → W p l e room_1 s m #[Value.ref b] below meth c H locs (79 + 12 * (k + 1)) (13150 + 346 * (k + 1)) (lw_Z below #[Value.ref b] s) (F0 m 1052 ls [])) (L : List Nat) (K : Nat → Nat) (T : Nat → Nat → Nat) (I : Nat → Nat → Int32) (Q : Nat → Nat → Option Nat) (J Im Jm : Nat → Nat → Int32) (H : Heap) (locs : List Loc) (ls : Array Slot) (h0 : lwI dC dI cy v N cz w Lm Km Nm Tm Qm (fun q : Nat => s.heap.size ≤ q) H k L K T I Q J Im Jm) (hS : va_S (fun q : Nat => s.heap.size ≤ q) s.heap H locs) (hl : lv_has ls 4 [(3, .int (nI (7 * k))), (2, .ref (w 0)), (1, .ref (v 0)), (0, .ref b)]) : W p l e room_1 s m #[Value.ref b] below meth c H locs (79 + 12 * k) (13150 + 346 * k) (lw_Z below #[Value.ref b] s) (F0 m 722 ls []) := by
  obtain ⟨hx, hb, hr, hml, hown, hts0, hX, hbl, hlocks, hgv⟩ := id C0
  have hown : s.vm.findClass RL = some m.cls := hown
  have hts : ∀ w ∈ wsL_law, w.before #[Value.ref b] s = true := fun w h => hts0 w (wsL_law_in w h)
  have hA : ∀ q : Nat, s.heap.size ≤ q → (fun q : Nat => s.heap.size ≤ q) q := fun _ h => h
  have hbA : ¬ (fun q : Nat => s.heap.size ≤ q) b := Nat.not_le.mpr hbl
  obtain ⟨hC, hI, hSR, hP, hD⟩ := h0
  obtain ⟨pa, ra, σ, hE, hMR, hSK⟩ := hSR
  have hLA : LA (5 * (k : Int)) σ := fun j hj => hMR.ml hj (hI.1 j hj)
  have hB : B5 (σ.1 0 0) := by rw [← hMR.1.1]; exact hI.2.2
  refine lv_aload_n hx hb dL_law_722 rfl (lv_at hl 2 rfl) ?_
  refine lv_aload_n hx hb dL_law_723 rfl (lv_at hl 3 rfl) ?_
  refine lv_iload_n hx hb dL_law_724 rfl (lv_at hl 0 rfl) ?_
  refine lv_iconst (v := 1) hx hb dL_law_725 (by decide) ?_
  refine lv_iadd hx hb dL_law_726 ?_
  refine lv_topi (fun v2059 ev2059 => ?_)
  obtain rfl : v2059 = nI (7 * k + 1) := ev2059.trans (nI_add (7 * k) 1)
  refine va_sld hx hb hX hbl hbA hS (nI_in (by omega) (by omega)) dL_law_727 ?_
  refine W.eq (g2 := F0 m 728 ls [.int (xs (7 * k + 1)), .ref (v 0)]) (by rw [nI_clamp (by omega)]) ?_
  refine lv_aload_n hx hb dL_law_728 rfl (lv_at hl 3 rfl) ?_
  refine lv_iload_n hx hb dL_law_729 rfl (lv_at hl 0 rfl) ?_
  refine lv_iconst (v := 2) hx hb dL_law_730 (by decide) ?_
  refine lv_iadd hx hb dL_law_731 ?_
  refine lv_topi (fun v2060 ev2060 => ?_)
  obtain rfl : v2060 = nI (7 * k + 2) := ev2060.trans (nI_add (7 * k) 2)
  refine va_sld hx hb hX hbl hbA hS (nI_in (by omega) (by omega)) dL_law_732 ?_
  refine W.eq (g2 := F0 m 733 ls [.int (xs (7 * k + 2)), .int (xs (7 * k + 1)), .ref (v 0)]) (by rw [nI_clamp (by omega)]) ?_
  obtain ⟨j2062, hj2062⟩ := pG_5 (cy := cy) (N := N) (T := T) (I := I) (Q := Q) (J := J) (hC.at 0 (by decide)) (hC.k 0 (by decide) rfl)
  refine vp_callSi (W.runV (As := [.int (xs (7 * k + 1)), .int (xs (7 * k + 2))]) (rest := []) ⟨hx, hb, hml, hown, hts⟩ (c_X5_position l dC dI cy v L K N T I Q J (xs (7 * k + 1)) (xs (7 * k + 2)) hC) (cwV 2 hts gL_law_X5_position rfl rfl rfl (by decide +kernel) ⟨Nat.le_of_ble_eq_true rfl, Nat.le_of_ble_eq_true rfl⟩) ⟨pb_blind, va_recv hKx (xP_l hP) (ci := 5) (q0 := j2062) rfl hj2062, fun U hU hW => ⟨rfl, pb_pre (xP_l hP) hKx hN hU hW⟩⟩ rfl rfl hl.1 rfl (lv_room (Nat.le_of_ble_eq_true rfl)) dL_law_733 ⟨show (79 + 12 * k) + 0 ≤ 600000 by omega, show (13150 + 346 * k) + 0 ≤ 7302250 by omega⟩) (fun r2061 hr2061 => ?_)
  refine lv_pop hx hb dL_law_736 rfl ?_
  refine lv_aload_n hx hb dL_law_737 rfl (lv_at hl 1 rfl) ?_
  refine lv_aload_n hx hb dL_law_738 rfl (lv_at hl 3 rfl) ?_
  refine lv_iload_n hx hb dL_law_739 rfl (lv_at hl 0 rfl) ?_
  refine lv_iconst (v := 1) hx hb dL_law_740 (by decide) ?_
  refine lv_iadd hx hb dL_law_741 ?_
  refine lv_topi (fun v2063 ev2063 => ?_)
  obtain rfl : v2063 = nI (7 * k + 1) := ev2063.trans (nI_add (7 * k) 1)
  refine va_sld hx hb hX hbl hbA hS (nI_in (by omega) (by omega)) dL_law_742 ?_
  refine W.eq (g2 := F0 m 743 ls [.int (xs (7 * k + 1)), .ref (w 0)]) (by rw [nI_clamp (by omega)]) ?_
  refine lv_aload_n hx hb dL_law_743 rfl (lv_at hl 3 rfl) ?_
  refine lv_iload_n hx hb dL_law_744 rfl (lv_at hl 0 rfl) ?_
  refine lv_iconst (v := 2) hx hb dL_law_745 (by decide) ?_
  refine lv_iadd hx hb dL_law_746 ?_
  refine lv_topi (fun v2064 ev2064 => ?_)
  obtain rfl : v2064 = nI (7 * k + 2) := ev2064.trans (nI_add (7 * k) 2)
  refine va_sld hx hb hX hbl hbA hS (nI_in (by omega) (by omega)) dL_law_747 ?_
  refine W.eq (g2 := F0 m 748 ls [.int (xs (7 * k + 2)), .int (xs (7 * k + 1)), .ref (w 0)]) (by rw [nI_clamp (by omega)]) ?_
  obtain ⟨j2066, hj2066⟩ := wG_7 (cy := cz) (N := Nm) (T := Tm) (I := Im) (Q := Qm) (J := Jm) (hM.at 0 (by decide)) (hM.k 0 (by decide) rfl)
  refine vp_callSi (W.runV (As := [.int (xs (7 * k + 1)), .int (xs (7 * k + 2))]) (rest := []) ⟨hx, hb, hml, hown, hts⟩ (c_X7_position l dC dI cz w Lm Km Nm Tm Qm Im Jm (xs (7 * k + 1)) (xs (7 * k + 2)) hM) (cwV 2 hts gL_law_X7_position rfl rfl rfl (by decide +kernel) ⟨Nat.le_of_ble_eq_true rfl, Nat.le_of_ble_eq_true rfl⟩) ⟨mb_blind, va_recv hKm (xP_r hP) (ci := 7) (q0 := j2066) rfl hj2066, fun U hU hW => ⟨rfl, mb_pre (xP_r hP) hKm hU hW⟩⟩ rfl rfl hl.1 rfl (lv_room (Nat.le_of_ble_eq_true rfl)) dL_law_748 ⟨show (79 + 12 * k) + 0 ≤ 600000 by omega, show (13150 + 346 * k) + 0 ≤ 7302250 by omega⟩) (fun r2065 hr2065 => ?_)
  refine lv_pop hx hb dL_law_751 rfl ?_
  refine lv_goto (tgt := 1052) hx hb dL_law_752 (by decide) ?_
  refine W.widen (k := 79 + 12 * (k + 1)) (n := 13150 + 346 * (k + 1)) (by omega) (by omega) ?_
  exact hT L K T I Q J Im Jm H locs ls ⟨hC, hI.mono (by omega), ⟨pa, ra, σ, hE, hMR, hSK⟩, hP, hD⟩ hS hl
set_option maxHeartbeats 4000000 in
set_option maxRecDepth 100000 in
theorem lw_c15 {p : Program} {e : Env} {s : State} {m : MethodId} {below : List Frame} {meth : Method} {c : Code} (l : Launch) {b Ls : Nat} {xs : Nat → Int32} (C0 : lw_At p s m meth c b Ls xs) {dC : Nat → ClassId} {dI : Nat → Nat → Nat} {cy : Nat → ClassId} {v : Nat → Nat} {N : Nat → Nat} {cz : Nat → ClassId} {w : Nat → Nat} {Lm : List Nat} {Km Nm : Nat → Nat} {Tm : Nat → Nat → Nat} {Qm : Nat → Nat → Option Nat} (hKx : va_K (dC, dI) vwCl (pTy cy) s) (hKm : va_K (dC, dI) vwCl (mTy cz) s) (hN : xN s) (hM : MS w Lm Km Nm Tm Qm) (hLs : Ls ≤ 448) (k : Nat) (hk : 7 * k + 7 ≤ Ls) (hT : ∀ (L : List Nat) (K : Nat → Nat) (T : Nat → Nat → Nat) (I : Nat → Nat → Int32) (Q : Nat → Nat → Option Nat) (J Im Jm : Nat → Nat → Int32) (H : Heap) (locs : List Loc) (ls : Array Slot), lwI dC dI cy v N cz w Lm Km Nm Tm Qm (fun q : Nat => s.heap.size ≤ q) H (k + 1) L K T I Q J Im Jm → va_S (fun q : Nat => s.heap.size ≤ q) s.heap H locs → lv_has ls 4 [(3, .int (nI (7 * k))), (2, .ref (w 0)), (1, .ref (v 0)), (0, .ref b)] → W p l e room_1 s m #[Value.ref b] below meth c H locs (79 + 12 * (k + 1)) (13150 + 346 * (k + 1)) (lw_Z below #[Value.ref b] s) (F0 m 1052 ls [])) (L : List Nat) (K : Nat → Nat) (T : Nat → Nat → Nat) (I : Nat → Nat → Int32) (Q : Nat → Nat → Option Nat) (J Im Jm : Nat → Nat → Int32) (H : Heap) (locs : List Loc) (ls : Array Slot) (h0 : lwI dC dI cy v N cz w Lm Km Nm Tm Qm (fun q : Nat => s.heap.size ≤ q) H k L K T I Q J Im Jm) (hS : va_S (fun q : Nat => s.heap.size ≤ q) s.heap H locs) (hl : lv_has ls 4 [(3, .int (nI (7 * k))), (2, .ref (w 0)), (1, .ref (v 0)), (0, .ref b)]) : W p l e room_1 s m #[Value.ref b] below meth c H locs (79 + 12 * k) (13150 + 346 * k) (lw_Z below #[Value.ref b] s) (F0 m 755 ls []) := by
  obtain ⟨hx, hb, hr, hml, hown, hts0, hX, hbl, hlocks, hgv⟩ := id C0
  have hown : s.vm.findClass RL = some m.cls := hown
  have hts : ∀ w ∈ wsL_law, w.before #[Value.ref b] s = true := fun w h => hts0 w (wsL_law_in w h)
  have hA : ∀ q : Nat, s.heap.size ≤ q → (fun q : Nat => s.heap.size ≤ q) q := fun _ h => h
  have hbA : ¬ (fun q : Nat => s.heap.size ≤ q) b := Nat.not_le.mpr hbl
  obtain ⟨hC, hI, hSR, hP, hD⟩ := h0
  obtain ⟨pa, ra, σ, hE, hMR, hSK⟩ := hSR
  have hLA : LA (5 * (k : Int)) σ := fun j hj => hMR.ml hj (hI.1 j hj)
  have hB : B5 (σ.1 0 0) := by rw [← hMR.1.1]; exact hI.2.2
  refine lv_aload_n hx hb dL_law_755 rfl (lv_at hl 2 rfl) ?_
  refine lv_aload_n hx hb dL_law_756 rfl (lv_at hl 3 rfl) ?_
  refine lv_iload_n hx hb dL_law_757 rfl (lv_at hl 0 rfl) ?_
  refine lv_iconst (v := 1) hx hb dL_law_758 (by decide) ?_
  refine lv_iadd hx hb dL_law_759 ?_
  refine lv_topi (fun v2067 ev2067 => ?_)
  obtain rfl : v2067 = nI (7 * k + 1) := ev2067.trans (nI_add (7 * k) 1)
  refine va_sld hx hb hX hbl hbA hS (nI_in (by omega) (by omega)) dL_law_760 ?_
  refine W.eq (g2 := F0 m 761 ls [.int (xs (7 * k + 1)), .ref (v 0)]) (by rw [nI_clamp (by omega)]) ?_
  obtain ⟨j2069, hj2069⟩ := pG_5 (cy := cy) (N := N) (T := T) (I := I) (Q := Q) (J := J) (hC.at 0 (by decide)) (hC.k 0 (by decide) rfl)
  have hFc := xfree (xD_l hD) hS hA
  refine va_calli (va_runV (As := [.int (xs (7 * k + 1))]) (rest := []) ⟨hx, hb, hml, hown, hts⟩ (g_X5_tick l dC dI cy v L K N T I Q J H.size pa ra (kxo σ) σ (5 * (k : Int)) (xs (7 * k + 1)) hE rfl hSK hLA (by omega) hB) (cwV 1 hts gL_law_X5_tick rfl rfl rfl (by decide +kernel) ⟨Nat.le_of_ble_eq_true rfl, Nat.le_of_ble_eq_true rfl⟩) ⟨pw_blind, va_recv hKx (xP_l hP) (ci := 5) (q0 := j2069) rfl hj2069, fun U hU hW => ⟨rfl, pw_pre (xP_l hP) hKx hN (xD_l hD) hU hW⟩⟩ rfl rfl hl.1 rfl (lv_room (Nat.le_of_ble_eq_true rfl)) dL_law_761 ⟨show (79 + 12 * k) + 0 ≤ 600000 by omega, show (13150 + 346 * k) + 0 ≤ 7302250 by omega⟩) hS (fun q _ h => hFc q h) hFc (fun r2068 d9 t H locs ht hvm hr2068 hB9 hz1 hk1 hS => ?_)
  obtain ⟨I, Q, J⟩ := d9
  obtain ⟨hP1, hK1, hD1⟩ := hB9
  rw [ht] at hP1
  have hPn : va_P (dC, dI) vwCl (va_pl L (pF cy K N T I Q J) ++ va_pl Lm (wF cz Km Nm Tm Im Qm Jm)) H := va_P.app hP1 (xj_keep hP hD hk1)
  have hD : va_D (fun q : Nat => s.heap.size ≤ q) (va_pl L (pF cy K N T I Q J) ++ va_pl Lm (wF cz Km Nm Tm Im Qm Jm)) := xj_D hP hD hD1 hFc
  have hP := hPn
  obtain ⟨hE2, hr5⟩ := hr2068
  have hE2 : REP v pa ra L K N T I Q J (kxo (qTk σ (xs (7 * k + 1))).1) (qTk σ (xs (7 * k + 1))).1 := hE2
  have hr5 : r2068 = (qTk σ (xs (7 * k + 1))).2 := hr5
  have hC := hE2.ct
  refine lv_pop hx hb dL_law_764 rfl ?_
  refine lv_aload_n hx hb dL_law_765 rfl (lv_at hl 1 rfl) ?_
  refine lv_aload_n hx hb dL_law_766 rfl (lv_at hl 3 rfl) ?_
  refine lv_iload_n hx hb dL_law_767 rfl (lv_at hl 0 rfl) ?_
  refine lv_iconst (v := 1) hx hb dL_law_768 (by decide) ?_
  refine lv_iadd hx hb dL_law_769 ?_
  refine lv_topi (fun v2070 ev2070 => ?_)
  obtain rfl : v2070 = nI (7 * k + 1) := ev2070.trans (nI_add (7 * k) 1)
  refine va_sld hx hb hX hbl hbA hS (nI_in (by omega) (by omega)) dL_law_770 ?_
  refine W.eq (g2 := F0 m 771 ls [.int (xs (7 * k + 1)), .ref (w 0)]) (by rw [nI_clamp (by omega)]) ?_
  obtain ⟨j2072, hj2072⟩ := wG_7 (cy := cz) (N := Nm) (T := Tm) (I := Im) (Q := Qm) (J := Jm) (hM.at 0 (by decide)) (hM.k 0 (by decide) rfl)
  have hPs := xswapP hP
  have hDs := xswapD hD
  have hFc := xfree (xD_l hDs) hS hA
  refine va_calli (va_runV (As := [.int (xs (7 * k + 1))]) (rest := []) ⟨hx, hb, hml, hown, hts⟩ (f_X7_tick l dC dI cz w Lm Km Nm Tm Qm Im Jm H.size (5 * (k : Int)) (xs (7 * k + 1)) σ hM hI (by omega) hMR) (cwV 1 hts gL_law_X7_tick rfl rfl rfl (by decide +kernel) ⟨Nat.le_of_ble_eq_true rfl, Nat.le_of_ble_eq_true rfl⟩) ⟨mw_blind, va_recv hKm (xP_r hP) (ci := 7) (q0 := j2072) rfl hj2072, fun U hU hW => ⟨rfl, mw_pre (xP_r hP) hKm (xD_r hD) hU hW⟩⟩ rfl rfl hl.1 rfl (lv_room (Nat.le_of_ble_eq_true rfl)) dL_law_771 ⟨show (79 + 12 * k + 0) + 0 ≤ 600000 by omega, show (13150 + 346 * k + 0) + 0 ≤ 7302250 by omega⟩) hS (fun q _ h => hFc q h) hFc (fun r2071 d9 t H locs ht hvm hr2071 hB9 hz1 hk1 hS => ?_)
  obtain ⟨Im, Jm⟩ := d9
  obtain ⟨hP1, hK1, hD1⟩ := hB9
  rw [ht] at hP1
  have hP : va_P (dC, dI) vwCl (va_pl L (pF cy K N T I Q J) ++ va_pl Lm (wF cz Km Nm Tm Im Qm Jm)) H := va_P.app (xj_keep hPs hDs hk1) hP1
  have hD : va_D (fun q : Nat => s.heap.size ≤ q) (va_pl L (pF cy K N T I Q J) ++ va_pl Lm (wF cz Km Nm Tm Im Qm Jm)) := xswapD (xj_D hPs hDs hD1 hFc)
  have hI : MI w (5 * (k : Int) + 5) Im Jm := hr2071.1
  obtain ⟨hMR2, hr7⟩ := hr2071.2
  have hMR2 : MR w Im Jm (qTk σ (xs (7 * k + 1))).1 := hMR2
  have hr7 : r2071 = (qTk σ (xs (7 * k + 1))).2 := hr7
  refine lv_pop hx hb dL_law_774 rfl ?_
  refine lv_goto (tgt := 1052) hx hb dL_law_775 (by decide) ?_
  refine W.widen (k := 79 + 12 * (k + 1)) (n := 13150 + 346 * (k + 1)) (by omega) (by omega) ?_
  exact hT L K T I Q J Im Jm H locs ls ⟨hC, hI.mono (by omega), ⟨pa, ra, _, hE2, hMR2, hSK.tk (xs (7 * k + 1))⟩, hP, hD⟩ hS hl
set_option maxHeartbeats 4000000 in
set_option maxRecDepth 100000 in
theorem lw_c16 {p : Program} {e : Env} {s : State} {m : MethodId} {below : List Frame} {meth : Method} {c : Code} (l : Launch) {b Ls : Nat} {xs : Nat → Int32} (C0 : lw_At p s m meth c b Ls xs) {dC : Nat → ClassId} {dI : Nat → Nat → Nat} {cy : Nat → ClassId} {v : Nat → Nat} {N : Nat → Nat} {cz : Nat → ClassId} {w : Nat → Nat} {Lm : List Nat} {Km Nm : Nat → Nat} {Tm : Nat → Nat → Nat} {Qm : Nat → Nat → Option Nat} (hKx : va_K (dC, dI) vwCl (pTy cy) s) (hKm : va_K (dC, dI) vwCl (mTy cz) s) (hN : xN s) (hM : MS w Lm Km Nm Tm Qm) (hLs : Ls ≤ 448) (k : Nat) (hk : 7 * k + 7 ≤ Ls) (hT : ∀ (L : List Nat) (K : Nat → Nat) (T : Nat → Nat → Nat) (I : Nat → Nat → Int32) (Q : Nat → Nat → Option Nat) (J Im Jm : Nat → Nat → Int32) (H : Heap) (locs : List Loc) (ls : Array Slot), lwI dC dI cy v N cz w Lm Km Nm Tm Qm (fun q : Nat => s.heap.size ≤ q) H (k + 1) L K T I Q J Im Jm → va_S (fun q : Nat => s.heap.size ≤ q) s.heap H locs → lv_has ls 4 [(3, .int (nI (7 * k))), (2, .ref (w 0)), (1, .ref (v 0)), (0, .ref b)] → W p l e room_1 s m #[Value.ref b] below meth c H locs (79 + 12 * (k + 1)) (13150 + 346 * (k + 1)) (lw_Z below #[Value.ref b] s) (F0 m 1052 ls [])) (L : List Nat) (K : Nat → Nat) (T : Nat → Nat → Nat) (I : Nat → Nat → Int32) (Q : Nat → Nat → Option Nat) (J Im Jm : Nat → Nat → Int32) (H : Heap) (locs : List Loc) (ls : Array Slot) (h0 : lwI dC dI cy v N cz w Lm Km Nm Tm Qm (fun q : Nat => s.heap.size ≤ q) H k L K T I Q J Im Jm) (hS : va_S (fun q : Nat => s.heap.size ≤ q) s.heap H locs) (hl : lv_has ls 4 [(3, .int (nI (7 * k))), (2, .ref (w 0)), (1, .ref (v 0)), (0, .ref b)]) : W p l e room_1 s m #[Value.ref b] below meth c H locs (79 + 12 * k) (13150 + 346 * k) (lw_Z below #[Value.ref b] s) (F0 m 778 ls []) := by
  obtain ⟨hx, hb, hr, hml, hown, hts0, hX, hbl, hlocks, hgv⟩ := id C0
  have hown : s.vm.findClass RL = some m.cls := hown
  have hts : ∀ w ∈ wsL_law, w.before #[Value.ref b] s = true := fun w h => hts0 w (wsL_law_in w h)
  have hA : ∀ q : Nat, s.heap.size ≤ q → (fun q : Nat => s.heap.size ≤ q) q := fun _ h => h
  have hbA : ¬ (fun q : Nat => s.heap.size ≤ q) b := Nat.not_le.mpr hbl
  obtain ⟨hC, hI, hSR, hP, hD⟩ := h0
  obtain ⟨pa, ra, σ, hE, hMR, hSK⟩ := hSR
  have hLA : LA (5 * (k : Int)) σ := fun j hj => hMR.ml hj (hI.1 j hj)
  have hB : B5 (σ.1 0 0) := by rw [← hMR.1.1]; exact hI.2.2
  refine lv_aload_n hx hb dL_law_778 rfl (lv_at hl 2 rfl) ?_
  refine lv_aload_n hx hb dL_law_779 rfl (lv_at hl 3 rfl) ?_
  refine lv_iload_n hx hb dL_law_780 rfl (lv_at hl 0 rfl) ?_
  refine lv_iconst (v := 1) hx hb dL_law_781 (by decide) ?_
  refine lv_iadd hx hb dL_law_782 ?_
  refine lv_topi (fun v2073 ev2073 => ?_)
  obtain rfl : v2073 = nI (7 * k + 1) := ev2073.trans (nI_add (7 * k) 1)
  refine va_sld hx hb hX hbl hbA hS (nI_in (by omega) (by omega)) dL_law_783 ?_
  refine W.eq (g2 := F0 m 784 ls [.int (xs (7 * k + 1)), .ref (v 0)]) (by rw [nI_clamp (by omega)]) ?_
  refine lv_aload_n hx hb dL_law_784 rfl (lv_at hl 3 rfl) ?_
  refine lv_iload_n hx hb dL_law_785 rfl (lv_at hl 0 rfl) ?_
  refine lv_iconst (v := 2) hx hb dL_law_786 (by decide) ?_
  refine lv_iadd hx hb dL_law_787 ?_
  refine lv_topi (fun v2074 ev2074 => ?_)
  obtain rfl : v2074 = nI (7 * k + 2) := ev2074.trans (nI_add (7 * k) 2)
  refine va_sld hx hb hX hbl hbA hS (nI_in (by omega) (by omega)) dL_law_788 ?_
  refine W.eq (g2 := F0 m 789 ls [.int (xs (7 * k + 2)), .int (xs (7 * k + 1)), .ref (v 0)]) (by rw [nI_clamp (by omega)]) ?_
  obtain ⟨j2076, hj2076⟩ := pG_5 (cy := cy) (N := N) (T := T) (I := I) (Q := Q) (J := J) (hC.at 0 (by decide)) (hC.k 0 (by decide) rfl)
  have hFc := xfree (xD_l hD) hS hA
  refine va_calli (va_runV (As := [.int (xs (7 * k + 1)), .int (xs (7 * k + 2))]) (rest := []) ⟨hx, hb, hml, hown, hts⟩ (g_X5_flush l dC dI cy v L K N T I Q J H.size pa ra (kxo σ) σ (5 * (k : Int)) (xs (7 * k + 1)) (xs (7 * k + 2)) hE rfl hSK hLA (by omega) hB) (cwV 2 hts gL_law_X5_flush rfl rfl rfl (by decide +kernel) ⟨Nat.le_of_ble_eq_true rfl, Nat.le_of_ble_eq_true rfl⟩) ⟨pw_blind, va_recv hKx (xP_l hP) (ci := 5) (q0 := j2076) rfl hj2076, fun U hU hW => ⟨rfl, pw_pre (xP_l hP) hKx hN (xD_l hD) hU hW⟩⟩ rfl rfl hl.1 rfl (lv_room (Nat.le_of_ble_eq_true rfl)) dL_law_789 ⟨show (79 + 12 * k) + 0 ≤ 600000 by omega, show (13150 + 346 * k) + 0 ≤ 7302250 by omega⟩) hS (fun q _ h => hFc q h) hFc (fun r2075 d9 t H locs ht hvm hr2075 hB9 hz1 hk1 hS => ?_)
  obtain ⟨I, Q, J⟩ := d9
  obtain ⟨hP1, hK1, hD1⟩ := hB9
  rw [ht] at hP1
  have hPn : va_P (dC, dI) vwCl (va_pl L (pF cy K N T I Q J) ++ va_pl Lm (wF cz Km Nm Tm Im Qm Jm)) H := va_P.app hP1 (xj_keep hP hD hk1)
  have hD : va_D (fun q : Nat => s.heap.size ≤ q) (va_pl L (pF cy K N T I Q J) ++ va_pl Lm (wF cz Km Nm Tm Im Qm Jm)) := xj_D hP hD hD1 hFc
  have hP := hPn
  obtain ⟨hE2, hr5⟩ := hr2075
  have hE2 : REP v pa ra L K N T I Q J (kxo (qFl σ (xs (7 * k + 1)) (xs (7 * k + 2))).1) (qFl σ (xs (7 * k + 1)) (xs (7 * k + 2))).1 := hE2
  have hr5 : r2075 = (qFl σ (xs (7 * k + 1)) (xs (7 * k + 2))).2 := hr5
  have hC := hE2.ct
  refine lv_pop hx hb dL_law_792 rfl ?_
  refine lv_aload_n hx hb dL_law_793 rfl (lv_at hl 1 rfl) ?_
  refine lv_aload_n hx hb dL_law_794 rfl (lv_at hl 3 rfl) ?_
  refine lv_iload_n hx hb dL_law_795 rfl (lv_at hl 0 rfl) ?_
  refine lv_iconst (v := 1) hx hb dL_law_796 (by decide) ?_
  refine lv_iadd hx hb dL_law_797 ?_
  refine lv_topi (fun v2077 ev2077 => ?_)
  obtain rfl : v2077 = nI (7 * k + 1) := ev2077.trans (nI_add (7 * k) 1)
  refine va_sld hx hb hX hbl hbA hS (nI_in (by omega) (by omega)) dL_law_798 ?_
  refine W.eq (g2 := F0 m 799 ls [.int (xs (7 * k + 1)), .ref (w 0)]) (by rw [nI_clamp (by omega)]) ?_
  refine lv_aload_n hx hb dL_law_799 rfl (lv_at hl 3 rfl) ?_
  refine lv_iload_n hx hb dL_law_800 rfl (lv_at hl 0 rfl) ?_
  refine lv_iconst (v := 2) hx hb dL_law_801 (by decide) ?_
  refine lv_iadd hx hb dL_law_802 ?_
  refine lv_topi (fun v2078 ev2078 => ?_)
  obtain rfl : v2078 = nI (7 * k + 2) := ev2078.trans (nI_add (7 * k) 2)
  refine va_sld hx hb hX hbl hbA hS (nI_in (by omega) (by omega)) dL_law_803 ?_
  refine W.eq (g2 := F0 m 804 ls [.int (xs (7 * k + 2)), .int (xs (7 * k + 1)), .ref (w 0)]) (by rw [nI_clamp (by omega)]) ?_
  obtain ⟨j2080, hj2080⟩ := wG_7 (cy := cz) (N := Nm) (T := Tm) (I := Im) (Q := Qm) (J := Jm) (hM.at 0 (by decide)) (hM.k 0 (by decide) rfl)
  have hPs := xswapP hP
  have hDs := xswapD hD
  have hFc := xfree (xD_l hDs) hS hA
  refine va_calli (va_runV (As := [.int (xs (7 * k + 1)), .int (xs (7 * k + 2))]) (rest := []) ⟨hx, hb, hml, hown, hts⟩ (f_X7_flush l dC dI cz w Lm Km Nm Tm Qm Im Jm H.size (5 * (k : Int)) (xs (7 * k + 1)) (xs (7 * k + 2)) σ hM hI (by omega) hMR) (cwV 2 hts gL_law_X7_flush rfl rfl rfl (by decide +kernel) ⟨Nat.le_of_ble_eq_true rfl, Nat.le_of_ble_eq_true rfl⟩) ⟨mw_blind, va_recv hKm (xP_r hP) (ci := 7) (q0 := j2080) rfl hj2080, fun U hU hW => ⟨rfl, mw_pre (xP_r hP) hKm (xD_r hD) hU hW⟩⟩ rfl rfl hl.1 rfl (lv_room (Nat.le_of_ble_eq_true rfl)) dL_law_804 ⟨show (79 + 12 * k + 0) + 0 ≤ 600000 by omega, show (13150 + 346 * k + 0) + 0 ≤ 7302250 by omega⟩) hS (fun q _ h => hFc q h) hFc (fun r2079 d9 t H locs ht hvm hr2079 hB9 hz1 hk1 hS => ?_)
  obtain ⟨Im, Jm⟩ := d9
  obtain ⟨hP1, hK1, hD1⟩ := hB9
  rw [ht] at hP1
  have hP : va_P (dC, dI) vwCl (va_pl L (pF cy K N T I Q J) ++ va_pl Lm (wF cz Km Nm Tm Im Qm Jm)) H := va_P.app (xj_keep hPs hDs hk1) hP1
  have hD : va_D (fun q : Nat => s.heap.size ≤ q) (va_pl L (pF cy K N T I Q J) ++ va_pl Lm (wF cz Km Nm Tm Im Qm Jm)) := xswapD (xj_D hPs hDs hD1 hFc)
  have hI : MI w (5 * (k : Int) + 5) Im Jm := hr2079.1
  obtain ⟨hMR2, hr7⟩ := hr2079.2
  have hMR2 : MR w Im Jm (qFl σ (xs (7 * k + 1)) (xs (7 * k + 2))).1 := hMR2
  have hr7 : r2079 = (qFl σ (xs (7 * k + 1)) (xs (7 * k + 2))).2 := hr7
  refine lv_pop hx hb dL_law_807 rfl ?_
  refine lv_goto (tgt := 1052) hx hb dL_law_808 (by decide) ?_
  refine W.widen (k := 79 + 12 * (k + 1)) (n := 13150 + 346 * (k + 1)) (by omega) (by omega) ?_
  exact hT L K T I Q J Im Jm H locs ls ⟨hC, hI.mono (by omega), ⟨pa, ra, _, hE2, hMR2, hSK.fl (xs (7 * k + 1)) (xs (7 * k + 2))⟩, hP, hD⟩ hS hl
set_option maxHeartbeats 4000000 in
set_option maxRecDepth 100000 in
theorem lw_c17 {p : Program} {e : Env} {s : State} {m : MethodId} {below : List Frame} {meth : Method} {c : Code} (l : Launch) {b Ls : Nat} {xs : Nat → Int32} (C0 : lw_At p s m meth c b Ls xs) {dC : Nat → ClassId} {dI : Nat → Nat → Nat} {cy : Nat → ClassId} {v : Nat → Nat} {N : Nat → Nat} {cz : Nat → ClassId} {w : Nat → Nat} {Lm : List Nat} {Km Nm : Nat → Nat} {Tm : Nat → Nat → Nat} {Qm : Nat → Nat → Option Nat} (hKx : va_K (dC, dI) vwCl (pTy cy) s) (hKm : va_K (dC, dI) vwCl (mTy cz) s) (hN : xN s) (hM : MS w Lm Km Nm Tm Qm) (hLs : Ls ≤ 448) (k : Nat) (hk : 7 * k + 7 ≤ Ls) (hT : ∀ (L : List Nat) (K : Nat → Nat) (T : Nat → Nat → Nat) (I : Nat → Nat → Int32) (Q : Nat → Nat → Option Nat) (J Im Jm : Nat → Nat → Int32) (H : Heap) (locs : List Loc) (ls : Array Slot), lwI dC dI cy v N cz w Lm Km Nm Tm Qm (fun q : Nat => s.heap.size ≤ q) H (k + 1) L K T I Q J Im Jm → va_S (fun q : Nat => s.heap.size ≤ q) s.heap H locs → lv_has ls 4 [(3, .int (nI (7 * k))), (2, .ref (w 0)), (1, .ref (v 0)), (0, .ref b)] → W p l e room_1 s m #[Value.ref b] below meth c H locs (79 + 12 * (k + 1)) (13150 + 346 * (k + 1)) (lw_Z below #[Value.ref b] s) (F0 m 1052 ls [])) (L : List Nat) (K : Nat → Nat) (T : Nat → Nat → Nat) (I : Nat → Nat → Int32) (Q : Nat → Nat → Option Nat) (J Im Jm : Nat → Nat → Int32) (H : Heap) (locs : List Loc) (ls : Array Slot) (h0 : lwI dC dI cy v N cz w Lm Km Nm Tm Qm (fun q : Nat => s.heap.size ≤ q) H k L K T I Q J Im Jm) (hS : va_S (fun q : Nat => s.heap.size ≤ q) s.heap H locs) (hl : lv_has ls 4 [(3, .int (nI (7 * k))), (2, .ref (w 0)), (1, .ref (v 0)), (0, .ref b)]) : W p l e room_1 s m #[Value.ref b] below meth c H locs (79 + 12 * k) (13150 + 346 * k) (lw_Z below #[Value.ref b] s) (F0 m 811 ls []) := by
  obtain ⟨hx, hb, hr, hml, hown, hts0, hX, hbl, hlocks, hgv⟩ := id C0
  have hown : s.vm.findClass RL = some m.cls := hown
  have hts : ∀ w ∈ wsL_law, w.before #[Value.ref b] s = true := fun w h => hts0 w (wsL_law_in w h)
  have hA : ∀ q : Nat, s.heap.size ≤ q → (fun q : Nat => s.heap.size ≤ q) q := fun _ h => h
  have hbA : ¬ (fun q : Nat => s.heap.size ≤ q) b := Nat.not_le.mpr hbl
  obtain ⟨hC, hI, hSR, hP, hD⟩ := h0
  obtain ⟨pa, ra, σ, hE, hMR, hSK⟩ := hSR
  have hLA : LA (5 * (k : Int)) σ := fun j hj => hMR.ml hj (hI.1 j hj)
  have hB : B5 (σ.1 0 0) := by rw [← hMR.1.1]; exact hI.2.2
  refine lv_aload_n hx hb dL_law_811 rfl (lv_at hl 2 rfl) ?_
  refine lv_aload_n hx hb dL_law_812 rfl (lv_at hl 3 rfl) ?_
  refine lv_iload_n hx hb dL_law_813 rfl (lv_at hl 0 rfl) ?_
  refine lv_iconst (v := 1) hx hb dL_law_814 (by decide) ?_
  refine lv_iadd hx hb dL_law_815 ?_
  refine lv_topi (fun v2081 ev2081 => ?_)
  obtain rfl : v2081 = nI (7 * k + 1) := ev2081.trans (nI_add (7 * k) 1)
  refine va_sld hx hb hX hbl hbA hS (nI_in (by omega) (by omega)) dL_law_816 ?_
  refine W.eq (g2 := F0 m 817 ls [.int (xs (7 * k + 1)), .ref (v 0)]) (by rw [nI_clamp (by omega)]) ?_
  refine lv_aload_n hx hb dL_law_817 rfl (lv_at hl 3 rfl) ?_
  refine lv_iload_n hx hb dL_law_818 rfl (lv_at hl 0 rfl) ?_
  refine lv_iconst (v := 2) hx hb dL_law_819 (by decide) ?_
  refine lv_iadd hx hb dL_law_820 ?_
  refine lv_topi (fun v2082 ev2082 => ?_)
  obtain rfl : v2082 = nI (7 * k + 2) := ev2082.trans (nI_add (7 * k) 2)
  refine va_sld hx hb hX hbl hbA hS (nI_in (by omega) (by omega)) dL_law_821 ?_
  refine W.eq (g2 := F0 m 822 ls [.int (xs (7 * k + 2)), .int (xs (7 * k + 1)), .ref (v 0)]) (by rw [nI_clamp (by omega)]) ?_
  obtain ⟨j2084, hj2084⟩ := pG_5 (cy := cy) (N := N) (T := T) (I := I) (Q := Q) (J := J) (hC.at 0 (by decide)) (hC.k 0 (by decide) rfl)
  have hFc := xfree (xD_l hD) hS hA
  refine va_calli (va_runV (As := [.int (xs (7 * k + 1)), .int (xs (7 * k + 2))]) (rest := []) ⟨hx, hb, hml, hown, hts⟩ (g_X5_crash l dC dI cy v L K N T I Q J H.size pa ra (kxo σ) σ (5 * (k : Int)) (xs (7 * k + 1)) (xs (7 * k + 2)) hE rfl hSK hLA (by omega) hB) (cwV 2 hts gL_law_X5_crash rfl rfl rfl (by decide +kernel) ⟨Nat.le_of_ble_eq_true rfl, Nat.le_of_ble_eq_true rfl⟩) ⟨pw_blind, va_recv hKx (xP_l hP) (ci := 5) (q0 := j2084) rfl hj2084, fun U hU hW => ⟨rfl, pw_pre (xP_l hP) hKx hN (xD_l hD) hU hW⟩⟩ rfl rfl hl.1 rfl (lv_room (Nat.le_of_ble_eq_true rfl)) dL_law_822 ⟨show (79 + 12 * k) + 0 ≤ 600000 by omega, show (13150 + 346 * k) + 0 ≤ 7302250 by omega⟩) hS (fun q _ h => hFc q h) hFc (fun r2083 d9 t H locs ht hvm hr2083 hB9 hz1 hk1 hS => ?_)
  obtain ⟨I, Q, J⟩ := d9
  obtain ⟨hP1, hK1, hD1⟩ := hB9
  rw [ht] at hP1
  have hPn : va_P (dC, dI) vwCl (va_pl L (pF cy K N T I Q J) ++ va_pl Lm (wF cz Km Nm Tm Im Qm Jm)) H := va_P.app hP1 (xj_keep hP hD hk1)
  have hD : va_D (fun q : Nat => s.heap.size ≤ q) (va_pl L (pF cy K N T I Q J) ++ va_pl Lm (wF cz Km Nm Tm Im Qm Jm)) := xj_D hP hD hD1 hFc
  have hP := hPn
  obtain ⟨hE2, hr5⟩ := hr2083
  have hE2 : REP v pa ra L K N T I Q J (kxo (qCr σ (xs (7 * k + 1)) (xs (7 * k + 2))).1) (qCr σ (xs (7 * k + 1)) (xs (7 * k + 2))).1 := hE2
  have hr5 : r2083 = (qCr σ (xs (7 * k + 1)) (xs (7 * k + 2))).2 := hr5
  have hC := hE2.ct
  refine lv_pop hx hb dL_law_825 rfl ?_
  refine lv_aload_n hx hb dL_law_826 rfl (lv_at hl 1 rfl) ?_
  refine lv_aload_n hx hb dL_law_827 rfl (lv_at hl 3 rfl) ?_
  refine lv_iload_n hx hb dL_law_828 rfl (lv_at hl 0 rfl) ?_
  refine lv_iconst (v := 1) hx hb dL_law_829 (by decide) ?_
  refine lv_iadd hx hb dL_law_830 ?_
  refine lv_topi (fun v2085 ev2085 => ?_)
  obtain rfl : v2085 = nI (7 * k + 1) := ev2085.trans (nI_add (7 * k) 1)
  refine va_sld hx hb hX hbl hbA hS (nI_in (by omega) (by omega)) dL_law_831 ?_
  refine W.eq (g2 := F0 m 832 ls [.int (xs (7 * k + 1)), .ref (w 0)]) (by rw [nI_clamp (by omega)]) ?_
  refine lv_aload_n hx hb dL_law_832 rfl (lv_at hl 3 rfl) ?_
  refine lv_iload_n hx hb dL_law_833 rfl (lv_at hl 0 rfl) ?_
  refine lv_iconst (v := 2) hx hb dL_law_834 (by decide) ?_
  refine lv_iadd hx hb dL_law_835 ?_
  refine lv_topi (fun v2086 ev2086 => ?_)
  obtain rfl : v2086 = nI (7 * k + 2) := ev2086.trans (nI_add (7 * k) 2)
  refine va_sld hx hb hX hbl hbA hS (nI_in (by omega) (by omega)) dL_law_836 ?_
  refine W.eq (g2 := F0 m 837 ls [.int (xs (7 * k + 2)), .int (xs (7 * k + 1)), .ref (w 0)]) (by rw [nI_clamp (by omega)]) ?_
  obtain ⟨j2088, hj2088⟩ := wG_7 (cy := cz) (N := Nm) (T := Tm) (I := Im) (Q := Qm) (J := Jm) (hM.at 0 (by decide)) (hM.k 0 (by decide) rfl)
  have hPs := xswapP hP
  have hDs := xswapD hD
  have hFc := xfree (xD_l hDs) hS hA
  refine va_calli (va_runV (As := [.int (xs (7 * k + 1)), .int (xs (7 * k + 2))]) (rest := []) ⟨hx, hb, hml, hown, hts⟩ (f_X7_crash l dC dI cz w Lm Km Nm Tm Qm Im Jm H.size (5 * (k : Int)) (xs (7 * k + 1)) (xs (7 * k + 2)) σ hM hI (by omega) hMR) (cwV 2 hts gL_law_X7_crash rfl rfl rfl (by decide +kernel) ⟨Nat.le_of_ble_eq_true rfl, Nat.le_of_ble_eq_true rfl⟩) ⟨mw_blind, va_recv hKm (xP_r hP) (ci := 7) (q0 := j2088) rfl hj2088, fun U hU hW => ⟨rfl, mw_pre (xP_r hP) hKm (xD_r hD) hU hW⟩⟩ rfl rfl hl.1 rfl (lv_room (Nat.le_of_ble_eq_true rfl)) dL_law_837 ⟨show (79 + 12 * k + 0) + 0 ≤ 600000 by omega, show (13150 + 346 * k + 0) + 0 ≤ 7302250 by omega⟩) hS (fun q _ h => hFc q h) hFc (fun r2087 d9 t H locs ht hvm hr2087 hB9 hz1 hk1 hS => ?_)
  obtain ⟨Im, Jm⟩ := d9
  obtain ⟨hP1, hK1, hD1⟩ := hB9
  rw [ht] at hP1
  have hP : va_P (dC, dI) vwCl (va_pl L (pF cy K N T I Q J) ++ va_pl Lm (wF cz Km Nm Tm Im Qm Jm)) H := va_P.app (xj_keep hPs hDs hk1) hP1
  have hD : va_D (fun q : Nat => s.heap.size ≤ q) (va_pl L (pF cy K N T I Q J) ++ va_pl Lm (wF cz Km Nm Tm Im Qm Jm)) := xswapD (xj_D hPs hDs hD1 hFc)
  have hI : MI w (5 * (k : Int) + 5) Im Jm := hr2087.1
  obtain ⟨hMR2, hr7⟩ := hr2087.2
  have hMR2 : MR w Im Jm (qCr σ (xs (7 * k + 1)) (xs (7 * k + 2))).1 := hMR2
  have hr7 : r2087 = (qCr σ (xs (7 * k + 1)) (xs (7 * k + 2))).2 := hr7
  refine lv_pop hx hb dL_law_840 rfl ?_
  refine lv_goto (tgt := 1052) hx hb dL_law_841 (by decide) ?_
  refine W.widen (k := 79 + 12 * (k + 1)) (n := 13150 + 346 * (k + 1)) (by omega) (by omega) ?_
  exact hT L K T I Q J Im Jm H locs ls ⟨hC, hI.mono (by omega), ⟨pa, ra, _, hE2, hMR2, hSK.cr hLA (xs (7 * k + 1)) (xs (7 * k + 2))⟩, hP, hD⟩ hS hl
