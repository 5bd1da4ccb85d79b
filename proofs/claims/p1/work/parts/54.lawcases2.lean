set_option maxHeartbeats 4000000 in
set_option maxRecDepth 100000 in
theorem lw_c12 {p : Program} {e : Env} {s : State} {m : MethodId} {below : List Frame} {meth : Method} {c : Code} (l : Launch) {b : Nat} {xs : Nat → Int32} (C0 : lw_At p s m meth c b 7 xs) {dC : Nat → ClassId} {dI : Nat → Nat → Nat} {v : Nat → Nat} {cy : Nat → ClassId} {w u : Nat → Nat} {cz ci cO cW : ClassId} (hKx : va_K (dC, dI) vwCl (fxT cy) s) (hKm : va_K (dC, dI) vwCl (mxT2 cz ci cO cW) s) (H : Heap) (locs : List Loc) (hP : va_P (dC, dI) vwCl (fxW v cy ++ (mxW w cz ci ++ lgW w u cO cW)) H) (hD : va_D (fun q : Nat => s.heap.size ≤ q) (fxW v cy ++ (mxW w cz ci ++ lgW w u cO cW))) (hS : va_S (fun q : Nat => s.heap.size ≤ q) s.heap H locs) (ls : Array Slot) (hl : lv_has ls 4 [(3, .int 0), (2, .ref (w 0)), (1, .ref (v 0)), (0, .ref b)]) : W p l e room_1 s m #[Value.ref b] below meth c H locs 79 13150 (lw_Z below #[Value.ref b] s) (F0 m 626 ls []) := by
  obtain ⟨hx, hb, hr, hml, hown, hts0, hX, hbl, hlocks, hgv⟩ := id C0
  have hown : s.vm.findClass RL = some m.cls := hown
  have hts : ∀ w ∈ wsL_law, w.before #[Value.ref b] s = true := fun w h => hts0 w (wsL_law_in w h)
  have hA : ∀ q : Nat, s.heap.size ≤ q → (fun q : Nat => s.heap.size ≤ q) q := fun _ h => h
  have hbA : ¬ (fun q : Nat => s.heap.size ≤ q) b := Nat.not_le.mpr hbl
  have hKm0 : va_K (dC, dI) vwCl (mxT cz ci) s := hKm.sub [0, 1] rfl
  have hPm := xP_r hP
  have hDm := xD_r hD
  refine lv_aload_n hx hb dL_law_626 rfl (lv_at hl 2 rfl) ?_
  refine lv_aload_n hx hb dL_law_627 rfl (lv_at hl 3 rfl) ?_
  refine lv_iload_n hx hb dL_law_628 rfl (lv_at hl 0 rfl) ?_
  refine lv_iconst (v := 1) hx hb dL_law_629 (by decide) ?_
  refine lv_iadd hx hb dL_law_630 ?_
  refine lv_topi (fun v722 ev722 => ?_)
  obtain rfl : v722 = (1 : Int32) := ev722.trans (by decide)
  refine va_sld hx hb hX hbl hbA hS (by unfold vp_in; decide) dL_law_631 ?_
  refine W.eq (g2 := F0 m 632 ls [.int (xs 1), .ref (v 0)]) rfl ?_
  refine lv_aload_n hx hb dL_law_632 rfl (lv_at hl 3 rfl) ?_
  refine lv_iload_n hx hb dL_law_633 rfl (lv_at hl 0 rfl) ?_
  refine lv_iconst (v := 2) hx hb dL_law_634 (by decide) ?_
  refine lv_iadd hx hb dL_law_635 ?_
  refine lv_topi (fun v723 ev723 => ?_)
  obtain rfl : v723 = (2 : Int32) := ev723.trans (by decide)
  refine va_sld hx hb hX hbl hbA hS (by unfold vp_in; decide) dL_law_636 ?_
  refine W.eq (g2 := F0 m 637 ls [.int (xs 2), .int (xs 1), .ref (v 0)]) rfl ?_
  refine vp_callSi (W.runV (As := [.int (xs 1), .int (xs 2)]) (rest := []) ⟨hx, hb, hml, hown, hts⟩ (c_X5_owner l dC dI v cy (xs 1) (xs 2)) (cwV 2 hts gL_law_X5_owner rfl rfl rfl (by decide +kernel) ⟨Nat.le_of_ble_eq_true rfl, Nat.le_of_ble_eq_true rfl⟩) ⟨fx_blind, va_recv hKx (xP_l hP) (ci := 5) (q0 := 0) rfl rfl, fun U hU hW => ⟨rfl, fx_pre (xP_l hP) hKx hU hW⟩⟩ rfl rfl hl.1 rfl (lv_room (Nat.le_of_ble_eq_true rfl)) dL_law_637 ⟨Nat.le_of_ble_eq_true rfl, Nat.le_of_ble_eq_true rfl⟩) (fun r724 hr724 => ?_)
  refine lv_aload_n hx hb dL_law_640 rfl (lv_at hl 1 rfl) ?_
  refine lv_aload_n hx hb dL_law_641 rfl (lv_at hl 3 rfl) ?_
  refine lv_iload_n hx hb dL_law_642 rfl (lv_at hl 0 rfl) ?_
  refine lv_iconst (v := 1) hx hb dL_law_643 (by decide) ?_
  refine lv_iadd hx hb dL_law_644 ?_
  refine lv_topi (fun v725 ev725 => ?_)
  obtain rfl : v725 = (1 : Int32) := ev725.trans (by decide)
  refine va_sld hx hb hX hbl hbA hS (by unfold vp_in; decide) dL_law_645 ?_
  refine W.eq (g2 := F0 m 646 ls [.int (xs 1), .ref (w 0), .int r724]) rfl ?_
  refine lv_aload_n hx hb dL_law_646 rfl (lv_at hl 3 rfl) ?_
  refine lv_iload_n hx hb dL_law_647 rfl (lv_at hl 0 rfl) ?_
  refine lv_iconst (v := 2) hx hb dL_law_648 (by decide) ?_
  refine lv_iadd hx hb dL_law_649 ?_
  refine lv_topi (fun v726 ev726 => ?_)
  obtain rfl : v726 = (2 : Int32) := ev726.trans (by decide)
  refine va_sld hx hb hX hbl hbA hS (by unfold vp_in; decide) dL_law_650 ?_
  refine W.eq (g2 := F0 m 651 ls [.int (xs 2), .int (xs 1), .ref (w 0), .int r724]) rfl ?_
  refine vp_callSi (W.runV (As := [.int (xs 1), .int (xs 2)]) (rest := [.int r724]) ⟨hx, hb, hml, hown, hts⟩ (c_X7_owner l dC dI w cz ci (xs 1) (xs 2)) (cwV 2 hts gL_law_X7_owner rfl rfl rfl (by decide +kernel) ⟨Nat.le_of_ble_eq_true rfl, Nat.le_of_ble_eq_true rfl⟩) ⟨mx_blind, va_recv hKm0 (xP_l hPm) (ci := 7) (q0 := 0) rfl rfl, fun U hU hW => ⟨rfl, mx_pre (xP_l hPm) hKm0 hU hW⟩⟩ rfl rfl hl.1 rfl (lv_room (Nat.le_of_ble_eq_true rfl)) dL_law_651 ⟨Nat.le_of_ble_eq_true rfl, Nat.le_of_ble_eq_true rfl⟩) (fun r727 hr727 => ?_)
  refine lv_icmp_eq (tgt := 1053) hx hb dL_law_654 (by decide) (fun c728 => ?_) (fun c728 => ?_)
  · exact lw_tail l C0 H locs hS ls hl 79 13150 (by decide) (by decide)
  · exact absurd (hr724.trans hr727.symm) c728
set_option maxHeartbeats 4000000 in
set_option maxRecDepth 100000 in
theorem lw_c13 {p : Program} {e : Env} {s : State} {m : MethodId} {below : List Frame} {meth : Method} {c : Code} (l : Launch) {b : Nat} {xs : Nat → Int32} (C0 : lw_At p s m meth c b 7 xs) {dC : Nat → ClassId} {dI : Nat → Nat → Nat} {v : Nat → Nat} {cy : Nat → ClassId} {w u : Nat → Nat} {cz ci cO cW : ClassId} (hKx : va_K (dC, dI) vwCl (fxT cy) s) (hKm : va_K (dC, dI) vwCl (mxT2 cz ci cO cW) s) (H : Heap) (locs : List Loc) (hP : va_P (dC, dI) vwCl (fxW v cy ++ (mxW w cz ci ++ lgW w u cO cW)) H) (hD : va_D (fun q : Nat => s.heap.size ≤ q) (fxW v cy ++ (mxW w cz ci ++ lgW w u cO cW))) (hS : va_S (fun q : Nat => s.heap.size ≤ q) s.heap H locs) (ls : Array Slot) (hl : lv_has ls 4 [(3, .int 0), (2, .ref (w 0)), (1, .ref (v 0)), (0, .ref b)]) : W p l e room_1 s m #[Value.ref b] below meth c H locs 79 13150 (lw_Z below #[Value.ref b] s) (F0 m 659 ls []) := by
  obtain ⟨hx, hb, hr, hml, hown, hts0, hX, hbl, hlocks, hgv⟩ := id C0
  have hown : s.vm.findClass RL = some m.cls := hown
  have hts : ∀ w ∈ wsL_law, w.before #[Value.ref b] s = true := fun w h => hts0 w (wsL_law_in w h)
  have hA : ∀ q : Nat, s.heap.size ≤ q → (fun q : Nat => s.heap.size ≤ q) q := fun _ h => h
  have hbA : ¬ (fun q : Nat => s.heap.size ≤ q) b := Nat.not_le.mpr hbl
  have hKm0 : va_K (dC, dI) vwCl (mxT cz ci) s := hKm.sub [0, 1] rfl
  have hPm := xP_r hP
  have hDm := xD_r hD
  refine lv_aload_n hx hb dL_law_659 rfl (lv_at hl 2 rfl) ?_
  refine lv_aload_n hx hb dL_law_660 rfl (lv_at hl 3 rfl) ?_
  refine lv_iload_n hx hb dL_law_661 rfl (lv_at hl 0 rfl) ?_
  refine lv_iconst (v := 1) hx hb dL_law_662 (by decide) ?_
  refine lv_iadd hx hb dL_law_663 ?_
  refine lv_topi (fun v729 ev729 => ?_)
  obtain rfl : v729 = (1 : Int32) := ev729.trans (by decide)
  refine va_sld hx hb hX hbl hbA hS (by unfold vp_in; decide) dL_law_664 ?_
  refine W.eq (g2 := F0 m 665 ls [.int (xs 1), .ref (v 0)]) rfl ?_
  refine lv_aload_n hx hb dL_law_665 rfl (lv_at hl 3 rfl) ?_
  refine lv_iload_n hx hb dL_law_666 rfl (lv_at hl 0 rfl) ?_
  refine lv_iconst (v := 2) hx hb dL_law_667 (by decide) ?_
  refine lv_iadd hx hb dL_law_668 ?_
  refine lv_topi (fun v730 ev730 => ?_)
  obtain rfl : v730 = (2 : Int32) := ev730.trans (by decide)
  refine va_sld hx hb hX hbl hbA hS (by unfold vp_in; decide) dL_law_669 ?_
  refine W.eq (g2 := F0 m 670 ls [.int (xs 2), .int (xs 1), .ref (v 0)]) rfl ?_
  refine lv_aload_n hx hb dL_law_670 rfl (lv_at hl 3 rfl) ?_
  refine lv_iload_n hx hb dL_law_671 rfl (lv_at hl 0 rfl) ?_
  refine lv_iconst (v := 3) hx hb dL_law_672 (by decide) ?_
  refine lv_iadd hx hb dL_law_673 ?_
  refine lv_topi (fun v731 ev731 => ?_)
  obtain rfl : v731 = (3 : Int32) := ev731.trans (by decide)
  refine va_sld hx hb hX hbl hbA hS (by unfold vp_in; decide) dL_law_674 ?_
  refine W.eq (g2 := F0 m 675 ls [.int (xs 3), .int (xs 2), .int (xs 1), .ref (v 0)]) rfl ?_
  refine lv_aload_n hx hb dL_law_675 rfl (lv_at hl 3 rfl) ?_
  refine lv_iload_n hx hb dL_law_676 rfl (lv_at hl 0 rfl) ?_
  refine lv_iconst (v := 4) hx hb dL_law_677 (by decide) ?_
  refine lv_iadd hx hb dL_law_678 ?_
  refine lv_topi (fun v732 ev732 => ?_)
  obtain rfl : v732 = (4 : Int32) := ev732.trans (by decide)
  refine va_sld hx hb hX hbl hbA hS (by unfold vp_in; decide) dL_law_679 ?_
  refine W.eq (g2 := F0 m 680 ls [.int (xs 4), .int (xs 3), .int (xs 2), .int (xs 1), .ref (v 0)]) rfl ?_
  refine lv_aload_n hx hb dL_law_680 rfl (lv_at hl 3 rfl) ?_
  refine lv_iload_n hx hb dL_law_681 rfl (lv_at hl 0 rfl) ?_
  refine lv_iconst (v := 5) hx hb dL_law_682 (by decide) ?_
  refine lv_iadd hx hb dL_law_683 ?_
  refine lv_topi (fun v733 ev733 => ?_)
  obtain rfl : v733 = (5 : Int32) := ev733.trans (by decide)
  refine va_sld hx hb hX hbl hbA hS (by unfold vp_in; decide) dL_law_684 ?_
  refine W.eq (g2 := F0 m 685 ls [.int (xs 5), .int (xs 4), .int (xs 3), .int (xs 2), .int (xs 1), .ref (v 0)]) rfl ?_
  refine vp_callSi (W.runV (As := [.int (xs 1), .int (xs 2), .int (xs 3), .int (xs 4), .int (xs 5)]) (rest := []) ⟨hx, hb, hml, hown, hts⟩ (c_X5_move l dC dI v cy (xs 1) (xs 2) (xs 3) (xs 4) (xs 5)) (cwV 5 hts gL_law_X5_move rfl rfl rfl (by decide +kernel) ⟨Nat.le_of_ble_eq_true rfl, Nat.le_of_ble_eq_true rfl⟩) ⟨fx_blind, va_recv hKx (xP_l hP) (ci := 5) (q0 := 0) rfl rfl, fun U hU hW => ⟨rfl, fx_pre (xP_l hP) hKx hU hW⟩⟩ rfl rfl hl.1 rfl (lv_room (Nat.le_of_ble_eq_true rfl)) dL_law_685 ⟨Nat.le_of_ble_eq_true rfl, Nat.le_of_ble_eq_true rfl⟩) (fun r734 hr734 => ?_)
  refine lv_aload_n hx hb dL_law_688 rfl (lv_at hl 1 rfl) ?_
  refine lv_aload_n hx hb dL_law_689 rfl (lv_at hl 3 rfl) ?_
  refine lv_iload_n hx hb dL_law_690 rfl (lv_at hl 0 rfl) ?_
  refine lv_iconst (v := 1) hx hb dL_law_691 (by decide) ?_
  refine lv_iadd hx hb dL_law_692 ?_
  refine lv_topi (fun v735 ev735 => ?_)
  obtain rfl : v735 = (1 : Int32) := ev735.trans (by decide)
  refine va_sld hx hb hX hbl hbA hS (by unfold vp_in; decide) dL_law_693 ?_
  refine W.eq (g2 := F0 m 694 ls [.int (xs 1), .ref (w 0), .int r734]) rfl ?_
  refine lv_aload_n hx hb dL_law_694 rfl (lv_at hl 3 rfl) ?_
  refine lv_iload_n hx hb dL_law_695 rfl (lv_at hl 0 rfl) ?_
  refine lv_iconst (v := 2) hx hb dL_law_696 (by decide) ?_
  refine lv_iadd hx hb dL_law_697 ?_
  refine lv_topi (fun v736 ev736 => ?_)
  obtain rfl : v736 = (2 : Int32) := ev736.trans (by decide)
  refine va_sld hx hb hX hbl hbA hS (by unfold vp_in; decide) dL_law_698 ?_
  refine W.eq (g2 := F0 m 699 ls [.int (xs 2), .int (xs 1), .ref (w 0), .int r734]) rfl ?_
  refine lv_aload_n hx hb dL_law_699 rfl (lv_at hl 3 rfl) ?_
  refine lv_iload_n hx hb dL_law_700 rfl (lv_at hl 0 rfl) ?_
  refine lv_iconst (v := 3) hx hb dL_law_701 (by decide) ?_
  refine lv_iadd hx hb dL_law_702 ?_
  refine lv_topi (fun v737 ev737 => ?_)
  obtain rfl : v737 = (3 : Int32) := ev737.trans (by decide)
  refine va_sld hx hb hX hbl hbA hS (by unfold vp_in; decide) dL_law_703 ?_
  refine W.eq (g2 := F0 m 704 ls [.int (xs 3), .int (xs 2), .int (xs 1), .ref (w 0), .int r734]) rfl ?_
  refine lv_aload_n hx hb dL_law_704 rfl (lv_at hl 3 rfl) ?_
  refine lv_iload_n hx hb dL_law_705 rfl (lv_at hl 0 rfl) ?_
  refine lv_iconst (v := 4) hx hb dL_law_706 (by decide) ?_
  refine lv_iadd hx hb dL_law_707 ?_
  refine lv_topi (fun v738 ev738 => ?_)
  obtain rfl : v738 = (4 : Int32) := ev738.trans (by decide)
  refine va_sld hx hb hX hbl hbA hS (by unfold vp_in; decide) dL_law_708 ?_
  refine W.eq (g2 := F0 m 709 ls [.int (xs 4), .int (xs 3), .int (xs 2), .int (xs 1), .ref (w 0), .int r734]) rfl ?_
  refine lv_aload_n hx hb dL_law_709 rfl (lv_at hl 3 rfl) ?_
  refine lv_iload_n hx hb dL_law_710 rfl (lv_at hl 0 rfl) ?_
  refine lv_iconst (v := 5) hx hb dL_law_711 (by decide) ?_
  refine lv_iadd hx hb dL_law_712 ?_
  refine lv_topi (fun v739 ev739 => ?_)
  obtain rfl : v739 = (5 : Int32) := ev739.trans (by decide)
  refine va_sld hx hb hX hbl hbA hS (by unfold vp_in; decide) dL_law_713 ?_
  refine W.eq (g2 := F0 m 714 ls [.int (xs 5), .int (xs 4), .int (xs 3), .int (xs 2), .int (xs 1), .ref (w 0), .int r734]) rfl ?_
  refine vp_callSi (W.runV (As := [.int (xs 1), .int (xs 2), .int (xs 3), .int (xs 4), .int (xs 5)]) (rest := [.int r734]) ⟨hx, hb, hml, hown, hts⟩ (c_X7_move l dC dI w cz ci (xs 1) (xs 2) (xs 3) (xs 4) (xs 5)) (cwV 5 hts gL_law_X7_move rfl rfl rfl (by decide +kernel) ⟨Nat.le_of_ble_eq_true rfl, Nat.le_of_ble_eq_true rfl⟩) ⟨mx_blind, va_recv hKm0 (xP_l hPm) (ci := 7) (q0 := 0) rfl rfl, fun U hU hW => ⟨rfl, mx_pre (xP_l hPm) hKm0 hU hW⟩⟩ rfl rfl hl.1 rfl (lv_room (Nat.le_of_ble_eq_true rfl)) dL_law_714 ⟨Nat.le_of_ble_eq_true rfl, Nat.le_of_ble_eq_true rfl⟩) (fun r740 hr740 => ?_)
  refine lv_icmp_eq (tgt := 1053) hx hb dL_law_717 (by decide) (fun c741 => ?_) (fun c741 => ?_)
  · exact lw_tail l C0 H locs hS ls hl 79 13150 (by decide) (by decide)
  · exact absurd (hr734.trans hr740.symm) c741
set_option maxHeartbeats 4000000 in
set_option maxRecDepth 100000 in
theorem lw_c14 {p : Program} {e : Env} {s : State} {m : MethodId} {below : List Frame} {meth : Method} {c : Code} (l : Launch) {b : Nat} {xs : Nat → Int32} (C0 : lw_At p s m meth c b 7 xs) {dC : Nat → ClassId} {dI : Nat → Nat → Nat} {v : Nat → Nat} {cy : Nat → ClassId} {w u : Nat → Nat} {cz ci cO cW : ClassId} (hKx : va_K (dC, dI) vwCl (fxT cy) s) (hKm : va_K (dC, dI) vwCl (mxT2 cz ci cO cW) s) (H : Heap) (locs : List Loc) (hP : va_P (dC, dI) vwCl (fxW v cy ++ (mxW w cz ci ++ lgW w u cO cW)) H) (hD : va_D (fun q : Nat => s.heap.size ≤ q) (fxW v cy ++ (mxW w cz ci ++ lgW w u cO cW))) (hS : va_S (fun q : Nat => s.heap.size ≤ q) s.heap H locs) (ls : Array Slot) (hl : lv_has ls 4 [(3, .int 0), (2, .ref (w 0)), (1, .ref (v 0)), (0, .ref b)]) : W p l e room_1 s m #[Value.ref b] below meth c H locs 79 13150 (lw_Z below #[Value.ref b] s) (F0 m 722 ls []) := by
  obtain ⟨hx, hb, hr, hml, hown, hts0, hX, hbl, hlocks, hgv⟩ := id C0
  have hown : s.vm.findClass RL = some m.cls := hown
  have hts : ∀ w ∈ wsL_law, w.before #[Value.ref b] s = true := fun w h => hts0 w (wsL_law_in w h)
  have hA : ∀ q : Nat, s.heap.size ≤ q → (fun q : Nat => s.heap.size ≤ q) q := fun _ h => h
  have hbA : ¬ (fun q : Nat => s.heap.size ≤ q) b := Nat.not_le.mpr hbl
  have hKm0 : va_K (dC, dI) vwCl (mxT cz ci) s := hKm.sub [0, 1] rfl
  have hPm := xP_r hP
  have hDm := xD_r hD
  refine lv_aload_n hx hb dL_law_722 rfl (lv_at hl 2 rfl) ?_
  refine lv_aload_n hx hb dL_law_723 rfl (lv_at hl 3 rfl) ?_
  refine lv_iload_n hx hb dL_law_724 rfl (lv_at hl 0 rfl) ?_
  refine lv_iconst (v := 1) hx hb dL_law_725 (by decide) ?_
  refine lv_iadd hx hb dL_law_726 ?_
  refine lv_topi (fun v742 ev742 => ?_)
  obtain rfl : v742 = (1 : Int32) := ev742.trans (by decide)
  refine va_sld hx hb hX hbl hbA hS (by unfold vp_in; decide) dL_law_727 ?_
  refine W.eq (g2 := F0 m 728 ls [.int (xs 1), .ref (v 0)]) rfl ?_
  refine lv_aload_n hx hb dL_law_728 rfl (lv_at hl 3 rfl) ?_
  refine lv_iload_n hx hb dL_law_729 rfl (lv_at hl 0 rfl) ?_
  refine lv_iconst (v := 2) hx hb dL_law_730 (by decide) ?_
  refine lv_iadd hx hb dL_law_731 ?_
  refine lv_topi (fun v743 ev743 => ?_)
  obtain rfl : v743 = (2 : Int32) := ev743.trans (by decide)
  refine va_sld hx hb hX hbl hbA hS (by unfold vp_in; decide) dL_law_732 ?_
  refine W.eq (g2 := F0 m 733 ls [.int (xs 2), .int (xs 1), .ref (v 0)]) rfl ?_
  refine vp_callSi (W.runV (As := [.int (xs 1), .int (xs 2)]) (rest := []) ⟨hx, hb, hml, hown, hts⟩ (c_X5_position l dC dI v cy (xs 1) (xs 2)) (cwV 2 hts gL_law_X5_position rfl rfl rfl (by decide +kernel) ⟨Nat.le_of_ble_eq_true rfl, Nat.le_of_ble_eq_true rfl⟩) ⟨fx_blind, va_recv hKx (xP_l hP) (ci := 5) (q0 := 0) rfl rfl, fun U hU hW => ⟨rfl, fx_pre (xP_l hP) hKx hU hW⟩⟩ rfl rfl hl.1 rfl (lv_room (Nat.le_of_ble_eq_true rfl)) dL_law_733 ⟨Nat.le_of_ble_eq_true rfl, Nat.le_of_ble_eq_true rfl⟩) (fun r744 hr744 => ?_)
  refine lv_aload_n hx hb dL_law_736 rfl (lv_at hl 1 rfl) ?_
  refine lv_aload_n hx hb dL_law_737 rfl (lv_at hl 3 rfl) ?_
  refine lv_iload_n hx hb dL_law_738 rfl (lv_at hl 0 rfl) ?_
  refine lv_iconst (v := 1) hx hb dL_law_739 (by decide) ?_
  refine lv_iadd hx hb dL_law_740 ?_
  refine lv_topi (fun v745 ev745 => ?_)
  obtain rfl : v745 = (1 : Int32) := ev745.trans (by decide)
  refine va_sld hx hb hX hbl hbA hS (by unfold vp_in; decide) dL_law_741 ?_
  refine W.eq (g2 := F0 m 742 ls [.int (xs 1), .ref (w 0), .int r744]) rfl ?_
  refine lv_aload_n hx hb dL_law_742 rfl (lv_at hl 3 rfl) ?_
  refine lv_iload_n hx hb dL_law_743 rfl (lv_at hl 0 rfl) ?_
  refine lv_iconst (v := 2) hx hb dL_law_744 (by decide) ?_
  refine lv_iadd hx hb dL_law_745 ?_
  refine lv_topi (fun v746 ev746 => ?_)
  obtain rfl : v746 = (2 : Int32) := ev746.trans (by decide)
  refine va_sld hx hb hX hbl hbA hS (by unfold vp_in; decide) dL_law_746 ?_
  refine W.eq (g2 := F0 m 747 ls [.int (xs 2), .int (xs 1), .ref (w 0), .int r744]) rfl ?_
  refine vp_callSi (W.runV (As := [.int (xs 1), .int (xs 2)]) (rest := [.int r744]) ⟨hx, hb, hml, hown, hts⟩ (c_X7_position l dC dI w cz ci (xs 1) (xs 2)) (cwV 2 hts gL_law_X7_position rfl rfl rfl (by decide +kernel) ⟨Nat.le_of_ble_eq_true rfl, Nat.le_of_ble_eq_true rfl⟩) ⟨mx_blind, va_recv hKm0 (xP_l hPm) (ci := 7) (q0 := 0) rfl rfl, fun U hU hW => ⟨rfl, mx_pre (xP_l hPm) hKm0 hU hW⟩⟩ rfl rfl hl.1 rfl (lv_room (Nat.le_of_ble_eq_true rfl)) dL_law_747 ⟨Nat.le_of_ble_eq_true rfl, Nat.le_of_ble_eq_true rfl⟩) (fun r747 hr747 => ?_)
  refine lv_icmp_eq (tgt := 1053) hx hb dL_law_750 (by decide) (fun c748 => ?_) (fun c748 => ?_)
  · exact lw_tail l C0 H locs hS ls hl 79 13150 (by decide) (by decide)
  · exact absurd (hr744.trans hr747.symm) c748
set_option maxHeartbeats 4000000 in
set_option maxRecDepth 100000 in
theorem lw_c15 {p : Program} {e : Env} {s : State} {m : MethodId} {below : List Frame} {meth : Method} {c : Code} (l : Launch) {b : Nat} {xs : Nat → Int32} (C0 : lw_At p s m meth c b 7 xs) {dC : Nat → ClassId} {dI : Nat → Nat → Nat} {v : Nat → Nat} {cy : Nat → ClassId} {w u : Nat → Nat} {cz ci cO cW : ClassId} (hKx : va_K (dC, dI) vwCl (fxT cy) s) (hKm : va_K (dC, dI) vwCl (mxT2 cz ci cO cW) s) (H : Heap) (locs : List Loc) (hP : va_P (dC, dI) vwCl (fxW v cy ++ (mxW w cz ci ++ lgW w u cO cW)) H) (hD : va_D (fun q : Nat => s.heap.size ≤ q) (fxW v cy ++ (mxW w cz ci ++ lgW w u cO cW))) (hS : va_S (fun q : Nat => s.heap.size ≤ q) s.heap H locs) (ls : Array Slot) (hl : lv_has ls 4 [(3, .int 0), (2, .ref (w 0)), (1, .ref (v 0)), (0, .ref b)]) : W p l e room_1 s m #[Value.ref b] below meth c H locs 79 13150 (lw_Z below #[Value.ref b] s) (F0 m 755 ls []) := by
  obtain ⟨hx, hb, hr, hml, hown, hts0, hX, hbl, hlocks, hgv⟩ := id C0
  have hown : s.vm.findClass RL = some m.cls := hown
  have hts : ∀ w ∈ wsL_law, w.before #[Value.ref b] s = true := fun w h => hts0 w (wsL_law_in w h)
  have hA : ∀ q : Nat, s.heap.size ≤ q → (fun q : Nat => s.heap.size ≤ q) q := fun _ h => h
  have hbA : ¬ (fun q : Nat => s.heap.size ≤ q) b := Nat.not_le.mpr hbl
  have hKm0 : va_K (dC, dI) vwCl (mxT cz ci) s := hKm.sub [0, 1] rfl
  have hPm := xP_r hP
  have hDm := xD_r hD
  refine lv_aload_n hx hb dL_law_755 rfl (lv_at hl 2 rfl) ?_
  refine lv_aload_n hx hb dL_law_756 rfl (lv_at hl 3 rfl) ?_
  refine lv_iload_n hx hb dL_law_757 rfl (lv_at hl 0 rfl) ?_
  refine lv_iconst (v := 1) hx hb dL_law_758 (by decide) ?_
  refine lv_iadd hx hb dL_law_759 ?_
  refine lv_topi (fun v749 ev749 => ?_)
  obtain rfl : v749 = (1 : Int32) := ev749.trans (by decide)
  refine va_sld hx hb hX hbl hbA hS (by unfold vp_in; decide) dL_law_760 ?_
  refine W.eq (g2 := F0 m 761 ls [.int (xs 1), .ref (v 0)]) rfl ?_
  have hFc := xfree (xD_l hD) hS hA
  refine va_calli (va_runV (As := [.int (xs 1)]) (rest := []) ⟨hx, hb, hml, hown, hts⟩ (c_X5_tick l dC dI v cy H.size (xs 1)) (cwV 1 hts gL_law_X5_tick rfl rfl rfl (by decide +kernel) ⟨Nat.le_of_ble_eq_true rfl, Nat.le_of_ble_eq_true rfl⟩) ⟨fun a U g mk q => by obtain ⟨q0, q1, ⟨qP, qK⟩, qD⟩ := q; exact ⟨q0, q1, ⟨qP, va_K.moved (u := U) (U := U.calling g mk a) (Vm.Alike.refl U.vm) qK⟩, qD⟩, va_recv hKx (xP_l hP) (ci := 5) (q0 := 0) rfl rfl, fun U hU hW => ⟨rfl, by rw [hU], fx_pre (xP_l hP) hKx hU hW, (xD_l hD).weaken (fun _ _ _ _ => trivial)⟩⟩ rfl rfl hl.1 rfl (lv_room (Nat.le_of_ble_eq_true rfl)) dL_law_761 ⟨Nat.le_of_ble_eq_true rfl, Nat.le_of_ble_eq_true rfl⟩) hS (fun q _ h => hFc q h) hFc (fun r750 u9 t H1 locs ht hvm hr750 hB hz1 hk1 hS => ?_)
  have hPm := xj_keep hP hD hk1
  generalize H1 = H at hPm hS ⊢
  refine lv_aload_n hx hb dL_law_764 rfl (lv_at hl 1 rfl) ?_
  refine lv_aload_n hx hb dL_law_765 rfl (lv_at hl 3 rfl) ?_
  refine lv_iload_n hx hb dL_law_766 rfl (lv_at hl 0 rfl) ?_
  refine lv_iconst (v := 1) hx hb dL_law_767 (by decide) ?_
  refine lv_iadd hx hb dL_law_768 ?_
  refine lv_topi (fun v751 ev751 => ?_)
  obtain rfl : v751 = (1 : Int32) := ev751.trans (by decide)
  refine va_sld hx hb hX hbl hbA hS (by unfold vp_in; decide) dL_law_769 ?_
  refine W.eq (g2 := F0 m 770 ls [.int (xs 1), .ref (w 0), .int r750]) rfl ?_
  have hFc := xfree (xD_l hDm) hS hA
  refine va_calli (va_runV (As := [.int (xs 1)]) (rest := [.int r750]) ⟨hx, hb, hml, hown, hts⟩ (c_X7_tick l dC dI w cz ci H.size (xs 1)) (cwV 1 hts gL_law_X7_tick rfl rfl rfl (by decide +kernel) ⟨Nat.le_of_ble_eq_true rfl, Nat.le_of_ble_eq_true rfl⟩) ⟨fun a U g mk q => by obtain ⟨q0, q1, ⟨qP, qK⟩, qD⟩ := q; exact ⟨q0, q1, ⟨qP, va_K.moved (u := U) (U := U.calling g mk a) (Vm.Alike.refl U.vm) qK⟩, qD⟩, va_recv hKm0 (xP_l hPm) (ci := 7) (q0 := 0) rfl rfl, fun U hU hW => ⟨rfl, by rw [hU], ⟨by rw [hU]; exact xP_l hPm, va_K.moved hW.alike hKm0⟩, (xD_l hDm).weaken (fun _ _ _ _ => trivial)⟩⟩ rfl rfl hl.1 rfl (lv_room (Nat.le_of_ble_eq_true rfl)) dL_law_770 ⟨Nat.le_of_ble_eq_true rfl, Nat.le_of_ble_eq_true rfl⟩) hS (fun q _ h => hFc q h) hFc (fun r752 u9 t H1 locs ht hvm hr752 hB hz1 hk1 hS => ?_)
  generalize H1 = H at hS ⊢
  refine lv_icmp_eq (tgt := 1053) hx hb dL_law_773 (by decide) (fun c753 => ?_) (fun c753 => ?_)
  · exact lw_tail l C0 H locs hS ls hl 79 13150 (by decide) (by decide)
  · exact absurd (hr750.trans hr752.symm) c753
set_option maxHeartbeats 4000000 in
set_option maxRecDepth 100000 in
theorem lw_c16 {p : Program} {e : Env} {s : State} {m : MethodId} {below : List Frame} {meth : Method} {c : Code} (l : Launch) {b : Nat} {xs : Nat → Int32} (C0 : lw_At p s m meth c b 7 xs) {dC : Nat → ClassId} {dI : Nat → Nat → Nat} {v : Nat → Nat} {cy : Nat → ClassId} {w u : Nat → Nat} {cz ci cO cW : ClassId} (hKx : va_K (dC, dI) vwCl (fxT cy) s) (hKm : va_K (dC, dI) vwCl (mxT2 cz ci cO cW) s) (H : Heap) (locs : List Loc) (hP : va_P (dC, dI) vwCl (fxW v cy ++ (mxW w cz ci ++ lgW w u cO cW)) H) (hD : va_D (fun q : Nat => s.heap.size ≤ q) (fxW v cy ++ (mxW w cz ci ++ lgW w u cO cW))) (hS : va_S (fun q : Nat => s.heap.size ≤ q) s.heap H locs) (ls : Array Slot) (hl : lv_has ls 4 [(3, .int 0), (2, .ref (w 0)), (1, .ref (v 0)), (0, .ref b)]) : W p l e room_1 s m #[Value.ref b] below meth c H locs 79 13150 (lw_Z below #[Value.ref b] s) (F0 m 778 ls []) := by
  obtain ⟨hx, hb, hr, hml, hown, hts0, hX, hbl, hlocks, hgv⟩ := id C0
  have hown : s.vm.findClass RL = some m.cls := hown
  have hts : ∀ w ∈ wsL_law, w.before #[Value.ref b] s = true := fun w h => hts0 w (wsL_law_in w h)
  have hA : ∀ q : Nat, s.heap.size ≤ q → (fun q : Nat => s.heap.size ≤ q) q := fun _ h => h
  have hbA : ¬ (fun q : Nat => s.heap.size ≤ q) b := Nat.not_le.mpr hbl
  have hKm0 : va_K (dC, dI) vwCl (mxT cz ci) s := hKm.sub [0, 1] rfl
  have hPm := xP_r hP
  have hDm := xD_r hD
  refine lv_aload_n hx hb dL_law_778 rfl (lv_at hl 2 rfl) ?_
  refine lv_aload_n hx hb dL_law_779 rfl (lv_at hl 3 rfl) ?_
  refine lv_iload_n hx hb dL_law_780 rfl (lv_at hl 0 rfl) ?_
  refine lv_iconst (v := 1) hx hb dL_law_781 (by decide) ?_
  refine lv_iadd hx hb dL_law_782 ?_
  refine lv_topi (fun v754 ev754 => ?_)
  obtain rfl : v754 = (1 : Int32) := ev754.trans (by decide)
  refine va_sld hx hb hX hbl hbA hS (by unfold vp_in; decide) dL_law_783 ?_
  refine W.eq (g2 := F0 m 784 ls [.int (xs 1), .ref (v 0)]) rfl ?_
  refine lv_aload_n hx hb dL_law_784 rfl (lv_at hl 3 rfl) ?_
  refine lv_iload_n hx hb dL_law_785 rfl (lv_at hl 0 rfl) ?_
  refine lv_iconst (v := 2) hx hb dL_law_786 (by decide) ?_
  refine lv_iadd hx hb dL_law_787 ?_
  refine lv_topi (fun v755 ev755 => ?_)
  obtain rfl : v755 = (2 : Int32) := ev755.trans (by decide)
  refine va_sld hx hb hX hbl hbA hS (by unfold vp_in; decide) dL_law_788 ?_
  refine W.eq (g2 := F0 m 789 ls [.int (xs 2), .int (xs 1), .ref (v 0)]) rfl ?_
  refine vp_callSi (W.runV (As := [.int (xs 1), .int (xs 2)]) (rest := []) ⟨hx, hb, hml, hown, hts⟩ (c_X5_flush l dC dI v cy (xs 1) (xs 2)) (cwV 2 hts gL_law_X5_flush rfl rfl rfl (by decide +kernel) ⟨Nat.le_of_ble_eq_true rfl, Nat.le_of_ble_eq_true rfl⟩) ⟨fx_blind, va_recv hKx (xP_l hP) (ci := 5) (q0 := 0) rfl rfl, fun U hU hW => ⟨rfl, fx_pre (xP_l hP) hKx hU hW⟩⟩ rfl rfl hl.1 rfl (lv_room (Nat.le_of_ble_eq_true rfl)) dL_law_789 ⟨Nat.le_of_ble_eq_true rfl, Nat.le_of_ble_eq_true rfl⟩) (fun r756 hr756 => ?_)
  refine lv_aload_n hx hb dL_law_792 rfl (lv_at hl 1 rfl) ?_
  refine lv_aload_n hx hb dL_law_793 rfl (lv_at hl 3 rfl) ?_
  refine lv_iload_n hx hb dL_law_794 rfl (lv_at hl 0 rfl) ?_
  refine lv_iconst (v := 1) hx hb dL_law_795 (by decide) ?_
  refine lv_iadd hx hb dL_law_796 ?_
  refine lv_topi (fun v757 ev757 => ?_)
  obtain rfl : v757 = (1 : Int32) := ev757.trans (by decide)
  refine va_sld hx hb hX hbl hbA hS (by unfold vp_in; decide) dL_law_797 ?_
  refine W.eq (g2 := F0 m 798 ls [.int (xs 1), .ref (w 0), .int r756]) rfl ?_
  refine lv_aload_n hx hb dL_law_798 rfl (lv_at hl 3 rfl) ?_
  refine lv_iload_n hx hb dL_law_799 rfl (lv_at hl 0 rfl) ?_
  refine lv_iconst (v := 2) hx hb dL_law_800 (by decide) ?_
  refine lv_iadd hx hb dL_law_801 ?_
  refine lv_topi (fun v758 ev758 => ?_)
  obtain rfl : v758 = (2 : Int32) := ev758.trans (by decide)
  refine va_sld hx hb hX hbl hbA hS (by unfold vp_in; decide) dL_law_802 ?_
  refine W.eq (g2 := F0 m 803 ls [.int (xs 2), .int (xs 1), .ref (w 0), .int r756]) rfl ?_
  refine vp_callSi (W.runV (As := [.int (xs 1), .int (xs 2)]) (rest := [.int r756]) ⟨hx, hb, hml, hown, hts⟩ (c_X7_flush l dC dI w cz ci (xs 1) (xs 2)) (cwV 2 hts gL_law_X7_flush rfl rfl rfl (by decide +kernel) ⟨Nat.le_of_ble_eq_true rfl, Nat.le_of_ble_eq_true rfl⟩) ⟨mx_blind, va_recv hKm0 (xP_l hPm) (ci := 7) (q0 := 0) rfl rfl, fun U hU hW => ⟨rfl, mx_pre (xP_l hPm) hKm0 hU hW⟩⟩ rfl rfl hl.1 rfl (lv_room (Nat.le_of_ble_eq_true rfl)) dL_law_803 ⟨Nat.le_of_ble_eq_true rfl, Nat.le_of_ble_eq_true rfl⟩) (fun r759 hr759 => ?_)
  refine lv_icmp_eq (tgt := 1053) hx hb dL_law_806 (by decide) (fun c760 => ?_) (fun c760 => ?_)
  · exact lw_tail l C0 H locs hS ls hl 79 13150 (by decide) (by decide)
  · exact absurd (hr756.trans hr759.symm) c760
set_option maxHeartbeats 4000000 in
set_option maxRecDepth 100000 in
theorem lw_c17 {p : Program} {e : Env} {s : State} {m : MethodId} {below : List Frame} {meth : Method} {c : Code} (l : Launch) {b : Nat} {xs : Nat → Int32} (C0 : lw_At p s m meth c b 7 xs) {dC : Nat → ClassId} {dI : Nat → Nat → Nat} {v : Nat → Nat} {cy : Nat → ClassId} {w u : Nat → Nat} {cz ci cO cW : ClassId} (hKx : va_K (dC, dI) vwCl (fxT cy) s) (hKm : va_K (dC, dI) vwCl (mxT2 cz ci cO cW) s) (H : Heap) (locs : List Loc) (hP : va_P (dC, dI) vwCl (fxW v cy ++ (mxW w cz ci ++ lgW w u cO cW)) H) (hD : va_D (fun q : Nat => s.heap.size ≤ q) (fxW v cy ++ (mxW w cz ci ++ lgW w u cO cW))) (hS : va_S (fun q : Nat => s.heap.size ≤ q) s.heap H locs) (ls : Array Slot) (hl : lv_has ls 4 [(3, .int 0), (2, .ref (w 0)), (1, .ref (v 0)), (0, .ref b)]) : W p l e room_1 s m #[Value.ref b] below meth c H locs 79 13150 (lw_Z below #[Value.ref b] s) (F0 m 811 ls []) := by
  obtain ⟨hx, hb, hr, hml, hown, hts0, hX, hbl, hlocks, hgv⟩ := id C0
  have hown : s.vm.findClass RL = some m.cls := hown
  have hts : ∀ w ∈ wsL_law, w.before #[Value.ref b] s = true := fun w h => hts0 w (wsL_law_in w h)
  have hA : ∀ q : Nat, s.heap.size ≤ q → (fun q : Nat => s.heap.size ≤ q) q := fun _ h => h
  have hbA : ¬ (fun q : Nat => s.heap.size ≤ q) b := Nat.not_le.mpr hbl
  have hKm0 : va_K (dC, dI) vwCl (mxT cz ci) s := hKm.sub [0, 1] rfl
  have hPm := xP_r hP
  have hDm := xD_r hD
  refine lv_aload_n hx hb dL_law_811 rfl (lv_at hl 2 rfl) ?_
  refine lv_aload_n hx hb dL_law_812 rfl (lv_at hl 3 rfl) ?_
  refine lv_iload_n hx hb dL_law_813 rfl (lv_at hl 0 rfl) ?_
  refine lv_iconst (v := 1) hx hb dL_law_814 (by decide) ?_
  refine lv_iadd hx hb dL_law_815 ?_
  refine lv_topi (fun v761 ev761 => ?_)
  obtain rfl : v761 = (1 : Int32) := ev761.trans (by decide)
  refine va_sld hx hb hX hbl hbA hS (by unfold vp_in; decide) dL_law_816 ?_
  refine W.eq (g2 := F0 m 817 ls [.int (xs 1), .ref (v 0)]) rfl ?_
  refine lv_aload_n hx hb dL_law_817 rfl (lv_at hl 3 rfl) ?_
  refine lv_iload_n hx hb dL_law_818 rfl (lv_at hl 0 rfl) ?_
  refine lv_iconst (v := 2) hx hb dL_law_819 (by decide) ?_
  refine lv_iadd hx hb dL_law_820 ?_
  refine lv_topi (fun v762 ev762 => ?_)
  obtain rfl : v762 = (2 : Int32) := ev762.trans (by decide)
  refine va_sld hx hb hX hbl hbA hS (by unfold vp_in; decide) dL_law_821 ?_
  refine W.eq (g2 := F0 m 822 ls [.int (xs 2), .int (xs 1), .ref (v 0)]) rfl ?_
  have hFc := xfree (xD_l hD) hS hA
  refine va_calli (va_runV (As := [.int (xs 1), .int (xs 2)]) (rest := []) ⟨hx, hb, hml, hown, hts⟩ (c_X5_crash l dC dI v cy H.size (xs 1) (xs 2)) (cwV 2 hts gL_law_X5_crash rfl rfl rfl (by decide +kernel) ⟨Nat.le_of_ble_eq_true rfl, Nat.le_of_ble_eq_true rfl⟩) ⟨fun a U g mk q => by obtain ⟨q0, q1, ⟨qP, qK⟩, qD⟩ := q; exact ⟨q0, q1, ⟨qP, va_K.moved (u := U) (U := U.calling g mk a) (Vm.Alike.refl U.vm) qK⟩, qD⟩, va_recv hKx (xP_l hP) (ci := 5) (q0 := 0) rfl rfl, fun U hU hW => ⟨rfl, by rw [hU], fx_pre (xP_l hP) hKx hU hW, (xD_l hD).weaken (fun _ _ _ _ => trivial)⟩⟩ rfl rfl hl.1 rfl (lv_room (Nat.le_of_ble_eq_true rfl)) dL_law_822 ⟨Nat.le_of_ble_eq_true rfl, Nat.le_of_ble_eq_true rfl⟩) hS (fun q _ h => hFc q h) hFc (fun r763 u9 t H1 locs ht hvm hr763 hB hz1 hk1 hS => ?_)
  have hPm := xj_keep hP hD hk1
  generalize H1 = H at hPm hS ⊢
  refine lv_aload_n hx hb dL_law_825 rfl (lv_at hl 1 rfl) ?_
  refine lv_aload_n hx hb dL_law_826 rfl (lv_at hl 3 rfl) ?_
  refine lv_iload_n hx hb dL_law_827 rfl (lv_at hl 0 rfl) ?_
  refine lv_iconst (v := 1) hx hb dL_law_828 (by decide) ?_
  refine lv_iadd hx hb dL_law_829 ?_
  refine lv_topi (fun v764 ev764 => ?_)
  obtain rfl : v764 = (1 : Int32) := ev764.trans (by decide)
  refine va_sld hx hb hX hbl hbA hS (by unfold vp_in; decide) dL_law_830 ?_
  refine W.eq (g2 := F0 m 831 ls [.int (xs 1), .ref (w 0), .int r763]) rfl ?_
  refine lv_aload_n hx hb dL_law_831 rfl (lv_at hl 3 rfl) ?_
  refine lv_iload_n hx hb dL_law_832 rfl (lv_at hl 0 rfl) ?_
  refine lv_iconst (v := 2) hx hb dL_law_833 (by decide) ?_
  refine lv_iadd hx hb dL_law_834 ?_
  refine lv_topi (fun v765 ev765 => ?_)
  obtain rfl : v765 = (2 : Int32) := ev765.trans (by decide)
  refine va_sld hx hb hX hbl hbA hS (by unfold vp_in; decide) dL_law_835 ?_
  refine W.eq (g2 := F0 m 836 ls [.int (xs 2), .int (xs 1), .ref (w 0), .int r763]) rfl ?_
  have hFc := xfree (xD_l hDm) hS hA
  refine va_calli (va_runV (As := [.int (xs 1), .int (xs 2)]) (rest := [.int r763]) ⟨hx, hb, hml, hown, hts⟩ (c_X7_crash l dC dI w cz ci H.size (xs 1) (xs 2)) (cwV 2 hts gL_law_X7_crash rfl rfl rfl (by decide +kernel) ⟨Nat.le_of_ble_eq_true rfl, Nat.le_of_ble_eq_true rfl⟩) ⟨fun a U g mk q => by obtain ⟨q0, q1, ⟨qP, qK⟩, qD⟩ := q; exact ⟨q0, q1, ⟨qP, va_K.moved (u := U) (U := U.calling g mk a) (Vm.Alike.refl U.vm) qK⟩, qD⟩, va_recv hKm0 (xP_l hPm) (ci := 7) (q0 := 0) rfl rfl, fun U hU hW => ⟨rfl, by rw [hU], ⟨by rw [hU]; exact xP_l hPm, va_K.moved hW.alike hKm0⟩, (xD_l hDm).weaken (fun _ _ _ _ => trivial)⟩⟩ rfl rfl hl.1 rfl (lv_room (Nat.le_of_ble_eq_true rfl)) dL_law_836 ⟨Nat.le_of_ble_eq_true rfl, Nat.le_of_ble_eq_true rfl⟩) hS (fun q _ h => hFc q h) hFc (fun r766 u9 t H1 locs ht hvm hr766 hB hz1 hk1 hS => ?_)
  generalize H1 = H at hS ⊢
  refine lv_icmp_eq (tgt := 1053) hx hb dL_law_839 (by decide) (fun c767 => ?_) (fun c767 => ?_)
  · exact lw_tail l C0 H locs hS ls hl 79 13150 (by decide) (by decide)
  · exact absurd (hr763.trans hr766.symm) c767
set_option maxHeartbeats 4000000 in
set_option maxRecDepth 100000 in
theorem lw_c18 {p : Program} {e : Env} {s : State} {m : MethodId} {below : List Frame} {meth : Method} {c : Code} (l : Launch) {b : Nat} {xs : Nat → Int32} (C0 : lw_At p s m meth c b 7 xs) {dC : Nat → ClassId} {dI : Nat → Nat → Nat} {v : Nat → Nat} {cy : Nat → ClassId} {w u : Nat → Nat} {cz ci cO cW : ClassId} (hKx : va_K (dC, dI) vwCl (fxT cy) s) (hKm : va_K (dC, dI) vwCl (mxT2 cz ci cO cW) s) (H : Heap) (locs : List Loc) (hP : va_P (dC, dI) vwCl (fxW v cy ++ (mxW w cz ci ++ lgW w u cO cW)) H) (hD : va_D (fun q : Nat => s.heap.size ≤ q) (fxW v cy ++ (mxW w cz ci ++ lgW w u cO cW))) (hS : va_S (fun q : Nat => s.heap.size ≤ q) s.heap H locs) (ls : Array Slot) (hl : lv_has ls 4 [(3, .int 0), (2, .ref (w 0)), (1, .ref (v 0)), (0, .ref b)]) : W p l e room_1 s m #[Value.ref b] below meth c H locs 79 13150 (lw_Z below #[Value.ref b] s) (F0 m 844 ls []) := by
  obtain ⟨hx, hb, hr, hml, hown, hts0, hX, hbl, hlocks, hgv⟩ := id C0
  have hown : s.vm.findClass RL = some m.cls := hown
  have hts : ∀ w ∈ wsL_law, w.before #[Value.ref b] s = true := fun w h => hts0 w (wsL_law_in w h)
  have hA : ∀ q : Nat, s.heap.size ≤ q → (fun q : Nat => s.heap.size ≤ q) q := fun _ h => h
  have hbA : ¬ (fun q : Nat => s.heap.size ≤ q) b := Nat.not_le.mpr hbl
  have hKm0 : va_K (dC, dI) vwCl (mxT cz ci) s := hKm.sub [0, 1] rfl
  have hPm := xP_r hP
  have hDm := xD_r hD
  refine lv_aload_n hx hb dL_law_844 rfl (lv_at hl 2 rfl) ?_
  refine lv_aload_n hx hb dL_law_845 rfl (lv_at hl 3 rfl) ?_
  refine lv_iload_n hx hb dL_law_846 rfl (lv_at hl 0 rfl) ?_
  refine lv_iconst (v := 1) hx hb dL_law_847 (by decide) ?_
  refine lv_iadd hx hb dL_law_848 ?_
  refine lv_topi (fun v768 ev768 => ?_)
  obtain rfl : v768 = (1 : Int32) := ev768.trans (by decide)
  refine va_sld hx hb hX hbl hbA hS (by unfold vp_in; decide) dL_law_849 ?_
  refine W.eq (g2 := F0 m 850 ls [.int (xs 1), .ref (v 0)]) rfl ?_
  refine vp_callSi (W.runV (As := [.int (xs 1)]) (rest := []) ⟨hx, hb, hml, hown, hts⟩ (c_X5_restart l dC dI v cy (xs 1)) (cwV 1 hts gL_law_X5_restart rfl rfl rfl (by decide +kernel) ⟨Nat.le_of_ble_eq_true rfl, Nat.le_of_ble_eq_true rfl⟩) ⟨fx_blind, va_recv hKx (xP_l hP) (ci := 5) (q0 := 0) rfl rfl, fun U hU hW => ⟨rfl, fx_pre (xP_l hP) hKx hU hW⟩⟩ rfl rfl hl.1 rfl (lv_room (Nat.le_of_ble_eq_true rfl)) dL_law_850 ⟨Nat.le_of_ble_eq_true rfl, Nat.le_of_ble_eq_true rfl⟩) (fun r769 hr769 => ?_)
  refine lv_aload_n hx hb dL_law_853 rfl (lv_at hl 1 rfl) ?_
  refine lv_aload_n hx hb dL_law_854 rfl (lv_at hl 3 rfl) ?_
  refine lv_iload_n hx hb dL_law_855 rfl (lv_at hl 0 rfl) ?_
  refine lv_iconst (v := 1) hx hb dL_law_856 (by decide) ?_
  refine lv_iadd hx hb dL_law_857 ?_
  refine lv_topi (fun v770 ev770 => ?_)
  obtain rfl : v770 = (1 : Int32) := ev770.trans (by decide)
  refine va_sld hx hb hX hbl hbA hS (by unfold vp_in; decide) dL_law_858 ?_
  refine W.eq (g2 := F0 m 859 ls [.int (xs 1), .ref (w 0), .int r769]) rfl ?_
  refine vp_callSi (W.runV (As := [.int (xs 1)]) (rest := [.int r769]) ⟨hx, hb, hml, hown, hts⟩ (c_X7_restart l dC dI w cz ci (xs 1)) (cwV 1 hts gL_law_X7_restart rfl rfl rfl (by decide +kernel) ⟨Nat.le_of_ble_eq_true rfl, Nat.le_of_ble_eq_true rfl⟩) ⟨mx_blind, va_recv hKm0 (xP_l hPm) (ci := 7) (q0 := 0) rfl rfl, fun U hU hW => ⟨rfl, mx_pre (xP_l hPm) hKm0 hU hW⟩⟩ rfl rfl hl.1 rfl (lv_room (Nat.le_of_ble_eq_true rfl)) dL_law_859 ⟨Nat.le_of_ble_eq_true rfl, Nat.le_of_ble_eq_true rfl⟩) (fun r771 hr771 => ?_)
  refine lv_icmp_eq (tgt := 1053) hx hb dL_law_862 (by decide) (fun c772 => ?_) (fun c772 => ?_)
  · exact lw_tail l C0 H locs hS ls hl 79 13150 (by decide) (by decide)
  · exact absurd (hr769.trans hr771.symm) c772
set_option maxHeartbeats 4000000 in
set_option maxRecDepth 100000 in
theorem lw_c19 {p : Program} {e : Env} {s : State} {m : MethodId} {below : List Frame} {meth : Method} {c : Code} (l : Launch) {b : Nat} {xs : Nat → Int32} (C0 : lw_At p s m meth c b 7 xs) {dC : Nat → ClassId} {dI : Nat → Nat → Nat} {v : Nat → Nat} {cy : Nat → ClassId} {w u : Nat → Nat} {cz ci cO cW : ClassId} (hKx : va_K (dC, dI) vwCl (fxT cy) s) (hKm : va_K (dC, dI) vwCl (mxT2 cz ci cO cW) s) (H : Heap) (locs : List Loc) (hP : va_P (dC, dI) vwCl (fxW v cy ++ (mxW w cz ci ++ lgW w u cO cW)) H) (hD : va_D (fun q : Nat => s.heap.size ≤ q) (fxW v cy ++ (mxW w cz ci ++ lgW w u cO cW))) (hS : va_S (fun q : Nat => s.heap.size ≤ q) s.heap H locs) (ls : Array Slot) (hl : lv_has ls 4 [(3, .int 0), (2, .ref (w 0)), (1, .ref (v 0)), (0, .ref b)]) : W p l e room_1 s m #[Value.ref b] below meth c H locs 79 13150 (lw_Z below #[Value.ref b] s) (F0 m 867 ls []) := by
  obtain ⟨hx, hb, hr, hml, hown, hts0, hX, hbl, hlocks, hgv⟩ := id C0
  have hown : s.vm.findClass RL = some m.cls := hown
  have hts : ∀ w ∈ wsL_law, w.before #[Value.ref b] s = true := fun w h => hts0 w (wsL_law_in w h)
  have hA : ∀ q : Nat, s.heap.size ≤ q → (fun q : Nat => s.heap.size ≤ q) q := fun _ h => h
  have hbA : ¬ (fun q : Nat => s.heap.size ≤ q) b := Nat.not_le.mpr hbl
  have hKm0 : va_K (dC, dI) vwCl (mxT cz ci) s := hKm.sub [0, 1] rfl
  have hPm := xP_r hP
  have hDm := xD_r hD
  refine lv_aload_n hx hb dL_law_867 rfl (lv_at hl 2 rfl) ?_
  refine lv_aload_n hx hb dL_law_868 rfl (lv_at hl 3 rfl) ?_
  refine lv_iload_n hx hb dL_law_869 rfl (lv_at hl 0 rfl) ?_
  refine lv_iconst (v := 1) hx hb dL_law_870 (by decide) ?_
  refine lv_iadd hx hb dL_law_871 ?_
  refine lv_topi (fun v773 ev773 => ?_)
  obtain rfl : v773 = (1 : Int32) := ev773.trans (by decide)
  refine va_sld hx hb hX hbl hbA hS (by unfold vp_in; decide) dL_law_872 ?_
  refine W.eq (g2 := F0 m 873 ls [.int (xs 1), .ref (v 0)]) rfl ?_
  refine lv_aload_n hx hb dL_law_873 rfl (lv_at hl 3 rfl) ?_
  refine lv_iload_n hx hb dL_law_874 rfl (lv_at hl 0 rfl) ?_
  refine lv_iconst (v := 2) hx hb dL_law_875 (by decide) ?_
  refine lv_iadd hx hb dL_law_876 ?_
  refine lv_topi (fun v774 ev774 => ?_)
  obtain rfl : v774 = (2 : Int32) := ev774.trans (by decide)
  refine va_sld hx hb hX hbl hbA hS (by unfold vp_in; decide) dL_law_877 ?_
  refine W.eq (g2 := F0 m 878 ls [.int (xs 2), .int (xs 1), .ref (v 0)]) rfl ?_
  refine vp_callSi (W.runV (As := [.int (xs 1), .int (xs 2)]) (rest := []) ⟨hx, hb, hml, hown, hts⟩ (c_X5_trim l dC dI v cy (xs 1) (xs 2)) (cwV 2 hts gL_law_X5_trim rfl rfl rfl (by decide +kernel) ⟨Nat.le_of_ble_eq_true rfl, Nat.le_of_ble_eq_true rfl⟩) ⟨fx_blind, va_recv hKx (xP_l hP) (ci := 5) (q0 := 0) rfl rfl, fun U hU hW => ⟨rfl, fx_pre (xP_l hP) hKx hU hW⟩⟩ rfl rfl hl.1 rfl (lv_room (Nat.le_of_ble_eq_true rfl)) dL_law_878 ⟨Nat.le_of_ble_eq_true rfl, Nat.le_of_ble_eq_true rfl⟩) (fun r775 hr775 => ?_)
  refine lv_aload_n hx hb dL_law_881 rfl (lv_at hl 1 rfl) ?_
  refine lv_aload_n hx hb dL_law_882 rfl (lv_at hl 3 rfl) ?_
  refine lv_iload_n hx hb dL_law_883 rfl (lv_at hl 0 rfl) ?_
  refine lv_iconst (v := 1) hx hb dL_law_884 (by decide) ?_
  refine lv_iadd hx hb dL_law_885 ?_
  refine lv_topi (fun v776 ev776 => ?_)
  obtain rfl : v776 = (1 : Int32) := ev776.trans (by decide)
  refine va_sld hx hb hX hbl hbA hS (by unfold vp_in; decide) dL_law_886 ?_
  refine W.eq (g2 := F0 m 887 ls [.int (xs 1), .ref (w 0), .int r775]) rfl ?_
  refine lv_aload_n hx hb dL_law_887 rfl (lv_at hl 3 rfl) ?_
  refine lv_iload_n hx hb dL_law_888 rfl (lv_at hl 0 rfl) ?_
  refine lv_iconst (v := 2) hx hb dL_law_889 (by decide) ?_
  refine lv_iadd hx hb dL_law_890 ?_
  refine lv_topi (fun v777 ev777 => ?_)
  obtain rfl : v777 = (2 : Int32) := ev777.trans (by decide)
  refine va_sld hx hb hX hbl hbA hS (by unfold vp_in; decide) dL_law_891 ?_
  refine W.eq (g2 := F0 m 892 ls [.int (xs 2), .int (xs 1), .ref (w 0), .int r775]) rfl ?_
  refine vp_callSi (W.runV (As := [.int (xs 1), .int (xs 2)]) (rest := [.int r775]) ⟨hx, hb, hml, hown, hts⟩ (c_X7_trim l dC dI w cz ci (xs 1) (xs 2)) (cwV 2 hts gL_law_X7_trim rfl rfl rfl (by decide +kernel) ⟨Nat.le_of_ble_eq_true rfl, Nat.le_of_ble_eq_true rfl⟩) ⟨mx_blind, va_recv hKm0 (xP_l hPm) (ci := 7) (q0 := 0) rfl rfl, fun U hU hW => ⟨rfl, mx_pre (xP_l hPm) hKm0 hU hW⟩⟩ rfl rfl hl.1 rfl (lv_room (Nat.le_of_ble_eq_true rfl)) dL_law_892 ⟨Nat.le_of_ble_eq_true rfl, Nat.le_of_ble_eq_true rfl⟩) (fun r778 hr778 => ?_)
  refine lv_icmp_eq (tgt := 1053) hx hb dL_law_895 (by decide) (fun c779 => ?_) (fun c779 => ?_)
  · exact lw_tail l C0 H locs hS ls hl 79 13150 (by decide) (by decide)
  · exact absurd (hr775.trans hr778.symm) c779
set_option maxHeartbeats 4000000 in
set_option maxRecDepth 100000 in
theorem lw_c20 {p : Program} {e : Env} {s : State} {m : MethodId} {below : List Frame} {meth : Method} {c : Code} (l : Launch) {b : Nat} {xs : Nat → Int32} (C0 : lw_At p s m meth c b 7 xs) {dC : Nat → ClassId} {dI : Nat → Nat → Nat} {v : Nat → Nat} {cy : Nat → ClassId} {w u : Nat → Nat} {cz ci cO cW : ClassId} (hKx : va_K (dC, dI) vwCl (fxT cy) s) (hKm : va_K (dC, dI) vwCl (mxT2 cz ci cO cW) s) (H : Heap) (locs : List Loc) (hP : va_P (dC, dI) vwCl (fxW v cy ++ (mxW w cz ci ++ lgW w u cO cW)) H) (hD : va_D (fun q : Nat => s.heap.size ≤ q) (fxW v cy ++ (mxW w cz ci ++ lgW w u cO cW))) (hS : va_S (fun q : Nat => s.heap.size ≤ q) s.heap H locs) (ls : Array Slot) (hl : lv_has ls 4 [(3, .int 0), (2, .ref (w 0)), (1, .ref (v 0)), (0, .ref b)]) : W p l e room_1 s m #[Value.ref b] below meth c H locs 79 13150 (lw_Z below #[Value.ref b] s) (F0 m 900 ls []) := by
  obtain ⟨hx, hb, hr, hml, hown, hts0, hX, hbl, hlocks, hgv⟩ := id C0
  have hown : s.vm.findClass RL = some m.cls := hown
  have hts : ∀ w ∈ wsL_law, w.before #[Value.ref b] s = true := fun w h => hts0 w (wsL_law_in w h)
  have hA : ∀ q : Nat, s.heap.size ≤ q → (fun q : Nat => s.heap.size ≤ q) q := fun _ h => h
  have hbA : ¬ (fun q : Nat => s.heap.size ≤ q) b := Nat.not_le.mpr hbl
  have hKm0 : va_K (dC, dI) vwCl (mxT cz ci) s := hKm.sub [0, 1] rfl
  have hPm := xP_r hP
  have hDm := xD_r hD
  refine lv_aload_n hx hb dL_law_900 rfl (lv_at hl 2 rfl) ?_
  refine lv_aload_n hx hb dL_law_901 rfl (lv_at hl 3 rfl) ?_
  refine lv_iload_n hx hb dL_law_902 rfl (lv_at hl 0 rfl) ?_
  refine lv_iconst (v := 1) hx hb dL_law_903 (by decide) ?_
  refine lv_iadd hx hb dL_law_904 ?_
  refine lv_topi (fun v780 ev780 => ?_)
  obtain rfl : v780 = (1 : Int32) := ev780.trans (by decide)
  refine va_sld hx hb hX hbl hbA hS (by unfold vp_in; decide) dL_law_905 ?_
  refine W.eq (g2 := F0 m 906 ls [.int (xs 1), .ref (v 0)]) rfl ?_
  refine lv_aload_n hx hb dL_law_906 rfl (lv_at hl 3 rfl) ?_
  refine lv_iload_n hx hb dL_law_907 rfl (lv_at hl 0 rfl) ?_
  refine lv_iconst (v := 2) hx hb dL_law_908 (by decide) ?_
  refine lv_iadd hx hb dL_law_909 ?_
  refine lv_topi (fun v781 ev781 => ?_)
  obtain rfl : v781 = (2 : Int32) := ev781.trans (by decide)
  refine va_sld hx hb hX hbl hbA hS (by unfold vp_in; decide) dL_law_910 ?_
  refine W.eq (g2 := F0 m 911 ls [.int (xs 2), .int (xs 1), .ref (v 0)]) rfl ?_
  refine lv_aload_n hx hb dL_law_911 rfl (lv_at hl 3 rfl) ?_
  refine lv_iload_n hx hb dL_law_912 rfl (lv_at hl 0 rfl) ?_
  refine lv_iconst (v := 3) hx hb dL_law_913 (by decide) ?_
  refine lv_iadd hx hb dL_law_914 ?_
  refine lv_topi (fun v782 ev782 => ?_)
  obtain rfl : v782 = (3 : Int32) := ev782.trans (by decide)
  refine va_sld hx hb hX hbl hbA hS (by unfold vp_in; decide) dL_law_915 ?_
  refine W.eq (g2 := F0 m 916 ls [.int (xs 3), .int (xs 2), .int (xs 1), .ref (v 0)]) rfl ?_
  refine vp_callSi (W.runV (As := [.int (xs 1), .int (xs 2), .int (xs 3)]) (rest := []) ⟨hx, hb, hml, hown, hts⟩ (c_X5_log l dC dI v cy (xs 1) (xs 2) (xs 3)) (cwV 3 hts gL_law_X5_log rfl rfl rfl (by decide +kernel) ⟨Nat.le_of_ble_eq_true rfl, Nat.le_of_ble_eq_true rfl⟩) ⟨fx_blind, va_recv hKx (xP_l hP) (ci := 5) (q0 := 0) rfl rfl, fun U hU hW => ⟨rfl, fx_pre (xP_l hP) hKx hU hW⟩⟩ rfl rfl hl.1 rfl (lv_room (Nat.le_of_ble_eq_true rfl)) dL_law_916 ⟨Nat.le_of_ble_eq_true rfl, Nat.le_of_ble_eq_true rfl⟩) (fun r783 hr783 => ?_)
  refine lv_aload_n hx hb dL_law_919 rfl (lv_at hl 1 rfl) ?_
  refine lv_aload_n hx hb dL_law_920 rfl (lv_at hl 3 rfl) ?_
  refine lv_iload_n hx hb dL_law_921 rfl (lv_at hl 0 rfl) ?_
  refine lv_iconst (v := 1) hx hb dL_law_922 (by decide) ?_
  refine lv_iadd hx hb dL_law_923 ?_
  refine lv_topi (fun v784 ev784 => ?_)
  obtain rfl : v784 = (1 : Int32) := ev784.trans (by decide)
  refine va_sld hx hb hX hbl hbA hS (by unfold vp_in; decide) dL_law_924 ?_
  refine W.eq (g2 := F0 m 925 ls [.int (xs 1), .ref (w 0), .int r783]) rfl ?_
  refine lv_aload_n hx hb dL_law_925 rfl (lv_at hl 3 rfl) ?_
  refine lv_iload_n hx hb dL_law_926 rfl (lv_at hl 0 rfl) ?_
  refine lv_iconst (v := 2) hx hb dL_law_927 (by decide) ?_
  refine lv_iadd hx hb dL_law_928 ?_
  refine lv_topi (fun v785 ev785 => ?_)
  obtain rfl : v785 = (2 : Int32) := ev785.trans (by decide)
  refine va_sld hx hb hX hbl hbA hS (by unfold vp_in; decide) dL_law_929 ?_
  refine W.eq (g2 := F0 m 930 ls [.int (xs 2), .int (xs 1), .ref (w 0), .int r783]) rfl ?_
  refine lv_aload_n hx hb dL_law_930 rfl (lv_at hl 3 rfl) ?_
  refine lv_iload_n hx hb dL_law_931 rfl (lv_at hl 0 rfl) ?_
  refine lv_iconst (v := 3) hx hb dL_law_932 (by decide) ?_
  refine lv_iadd hx hb dL_law_933 ?_
  refine lv_topi (fun v786 ev786 => ?_)
  obtain rfl : v786 = (3 : Int32) := ev786.trans (by decide)
  refine va_sld hx hb hX hbl hbA hS (by unfold vp_in; decide) dL_law_934 ?_
  refine W.eq (g2 := F0 m 935 ls [.int (xs 3), .int (xs 2), .int (xs 1), .ref (w 0), .int r783]) rfl ?_
  refine vp_callSi (W.runV (As := [.int (xs 1), .int (xs 2), .int (xs 3)]) (rest := [.int r783]) ⟨hx, hb, hml, hown, hts⟩ (c_X7_log l dC dI w cz ci (xs 1) (xs 2) (xs 3)) (cwV 3 hts gL_law_X7_log rfl rfl rfl (by decide +kernel) ⟨Nat.le_of_ble_eq_true rfl, Nat.le_of_ble_eq_true rfl⟩) ⟨mx_blind, va_recv hKm0 (xP_l hPm) (ci := 7) (q0 := 0) rfl rfl, fun U hU hW => ⟨rfl, mx_pre (xP_l hPm) hKm0 hU hW⟩⟩ rfl rfl hl.1 rfl (lv_room (Nat.le_of_ble_eq_true rfl)) dL_law_935 ⟨Nat.le_of_ble_eq_true rfl, Nat.le_of_ble_eq_true rfl⟩) (fun r787 hr787 => ?_)
  refine lv_icmp_eq (tgt := 1053) hx hb dL_law_938 (by decide) (fun c788 => ?_) (fun c788 => ?_)
  · exact lw_tail l C0 H locs hS ls hl 79 13150 (by decide) (by decide)
  · exact absurd (hr783.trans hr787.symm) c788
set_option maxHeartbeats 4000000 in
set_option maxRecDepth 100000 in
theorem lw_c21 {p : Program} {e : Env} {s : State} {m : MethodId} {below : List Frame} {meth : Method} {c : Code} (l : Launch) {b : Nat} {xs : Nat → Int32} (C0 : lw_At p s m meth c b 7 xs) {dC : Nat → ClassId} {dI : Nat → Nat → Nat} {v : Nat → Nat} {cy : Nat → ClassId} {w u : Nat → Nat} {cz ci cO cW : ClassId} (hKx : va_K (dC, dI) vwCl (fxT cy) s) (hKm : va_K (dC, dI) vwCl (mxT2 cz ci cO cW) s) (H : Heap) (locs : List Loc) (hP : va_P (dC, dI) vwCl (fxW v cy ++ (mxW w cz ci ++ lgW w u cO cW)) H) (hD : va_D (fun q : Nat => s.heap.size ≤ q) (fxW v cy ++ (mxW w cz ci ++ lgW w u cO cW))) (hS : va_S (fun q : Nat => s.heap.size ≤ q) s.heap H locs) (ls : Array Slot) (hl : lv_has ls 4 [(3, .int 0), (2, .ref (w 0)), (1, .ref (v 0)), (0, .ref b)]) : W p l e room_1 s m #[Value.ref b] below meth c H locs 79 13150 (lw_Z below #[Value.ref b] s) (F0 m 943 ls []) := by
  obtain ⟨hx, hb, hr, hml, hown, hts0, hX, hbl, hlocks, hgv⟩ := id C0
  have hown : s.vm.findClass RL = some m.cls := hown
  have hts : ∀ w ∈ wsL_law, w.before #[Value.ref b] s = true := fun w h => hts0 w (wsL_law_in w h)
  have hA : ∀ q : Nat, s.heap.size ≤ q → (fun q : Nat => s.heap.size ≤ q) q := fun _ h => h
  have hbA : ¬ (fun q : Nat => s.heap.size ≤ q) b := Nat.not_le.mpr hbl
  have hKm0 : va_K (dC, dI) vwCl (mxT cz ci) s := hKm.sub [0, 1] rfl
  have hPm := xP_r hP
  have hDm := xD_r hD
  refine lv_aload_n hx hb dL_law_943 rfl (lv_at hl 2 rfl) ?_
  refine lv_aload_n hx hb dL_law_944 rfl (lv_at hl 3 rfl) ?_
  refine lv_iload_n hx hb dL_law_945 rfl (lv_at hl 0 rfl) ?_
  refine lv_iconst (v := 1) hx hb dL_law_946 (by decide) ?_
  refine lv_iadd hx hb dL_law_947 ?_
  refine lv_topi (fun v789 ev789 => ?_)
  obtain rfl : v789 = (1 : Int32) := ev789.trans (by decide)
  refine va_sld hx hb hX hbl hbA hS (by unfold vp_in; decide) dL_law_948 ?_
  refine W.eq (g2 := F0 m 949 ls [.int (xs 1), .ref (v 0)]) rfl ?_
  refine lv_aload_n hx hb dL_law_949 rfl (lv_at hl 3 rfl) ?_
  refine lv_iload_n hx hb dL_law_950 rfl (lv_at hl 0 rfl) ?_
  refine lv_iconst (v := 2) hx hb dL_law_951 (by decide) ?_
  refine lv_iadd hx hb dL_law_952 ?_
  refine lv_topi (fun v790 ev790 => ?_)
  obtain rfl : v790 = (2 : Int32) := ev790.trans (by decide)
  refine va_sld hx hb hX hbl hbA hS (by unfold vp_in; decide) dL_law_953 ?_
  refine W.eq (g2 := F0 m 954 ls [.int (xs 2), .int (xs 1), .ref (v 0)]) rfl ?_
  refine lv_aload_n hx hb dL_law_954 rfl (lv_at hl 3 rfl) ?_
  refine lv_iload_n hx hb dL_law_955 rfl (lv_at hl 0 rfl) ?_
  refine lv_iconst (v := 3) hx hb dL_law_956 (by decide) ?_
  refine lv_iadd hx hb dL_law_957 ?_
  refine lv_topi (fun v791 ev791 => ?_)
  obtain rfl : v791 = (3 : Int32) := ev791.trans (by decide)
  refine va_sld hx hb hX hbl hbA hS (by unfold vp_in; decide) dL_law_958 ?_
  refine W.eq (g2 := F0 m 959 ls [.int (xs 3), .int (xs 2), .int (xs 1), .ref (v 0)]) rfl ?_
  refine lv_aload_n hx hb dL_law_959 rfl (lv_at hl 3 rfl) ?_
  refine lv_iload_n hx hb dL_law_960 rfl (lv_at hl 0 rfl) ?_
  refine lv_iconst (v := 4) hx hb dL_law_961 (by decide) ?_
  refine lv_iadd hx hb dL_law_962 ?_
  refine lv_topi (fun v792 ev792 => ?_)
  obtain rfl : v792 = (4 : Int32) := ev792.trans (by decide)
  refine va_sld hx hb hX hbl hbA hS (by unfold vp_in; decide) dL_law_963 ?_
  refine W.eq (g2 := F0 m 964 ls [.int (xs 4), .int (xs 3), .int (xs 2), .int (xs 1), .ref (v 0)]) rfl ?_
  refine vp_callSl (W.runV (As := [.int (xs 1), .int (xs 2), .int (xs 3), .int (xs 4)]) (rest := []) ⟨hx, hb, hml, hown, hts⟩ (c_X5_record l dC dI v cy (xs 1) (xs 2) (xs 3) (xs 4)) (cwV 4 hts gL_law_X5_record rfl rfl rfl (by decide +kernel) ⟨Nat.le_of_ble_eq_true rfl, Nat.le_of_ble_eq_true rfl⟩) ⟨fx_blind, va_recv hKx (xP_l hP) (ci := 5) (q0 := 0) rfl rfl, fun U hU hW => ⟨rfl, fx_pre (xP_l hP) hKx hU hW⟩⟩ rfl rfl hl.1 rfl (lv_room (Nat.le_of_ble_eq_true rfl)) dL_law_964 ⟨Nat.le_of_ble_eq_true rfl, Nat.le_of_ble_eq_true rfl⟩) (fun r793 hr793 => ?_)
  refine lv_aload_n hx hb dL_law_967 rfl (lv_at hl 1 rfl) ?_
  refine lv_aload_n hx hb dL_law_968 rfl (lv_at hl 3 rfl) ?_
  refine lv_iload_n hx hb dL_law_969 rfl (lv_at hl 0 rfl) ?_
  refine lv_iconst (v := 1) hx hb dL_law_970 (by decide) ?_
  refine lv_iadd hx hb dL_law_971 ?_
  refine lv_topi (fun v794 ev794 => ?_)
  obtain rfl : v794 = (1 : Int32) := ev794.trans (by decide)
  refine va_sld hx hb hX hbl hbA hS (by unfold vp_in; decide) dL_law_972 ?_
  refine W.eq (g2 := F0 m 973 ls [.int (xs 1), .ref (w 0), .long r793]) rfl ?_
  refine lv_aload_n hx hb dL_law_973 rfl (lv_at hl 3 rfl) ?_
  refine lv_iload_n hx hb dL_law_974 rfl (lv_at hl 0 rfl) ?_
  refine lv_iconst (v := 2) hx hb dL_law_975 (by decide) ?_
  refine lv_iadd hx hb dL_law_976 ?_
  refine lv_topi (fun v795 ev795 => ?_)
  obtain rfl : v795 = (2 : Int32) := ev795.trans (by decide)
  refine va_sld hx hb hX hbl hbA hS (by unfold vp_in; decide) dL_law_977 ?_
  refine W.eq (g2 := F0 m 978 ls [.int (xs 2), .int (xs 1), .ref (w 0), .long r793]) rfl ?_
  refine lv_aload_n hx hb dL_law_978 rfl (lv_at hl 3 rfl) ?_
  refine lv_iload_n hx hb dL_law_979 rfl (lv_at hl 0 rfl) ?_
  refine lv_iconst (v := 3) hx hb dL_law_980 (by decide) ?_
  refine lv_iadd hx hb dL_law_981 ?_
  refine lv_topi (fun v796 ev796 => ?_)
  obtain rfl : v796 = (3 : Int32) := ev796.trans (by decide)
  refine va_sld hx hb hX hbl hbA hS (by unfold vp_in; decide) dL_law_982 ?_
  refine W.eq (g2 := F0 m 983 ls [.int (xs 3), .int (xs 2), .int (xs 1), .ref (w 0), .long r793]) rfl ?_
  refine lv_aload_n hx hb dL_law_983 rfl (lv_at hl 3 rfl) ?_
  refine lv_iload_n hx hb dL_law_984 rfl (lv_at hl 0 rfl) ?_
  refine lv_iconst (v := 4) hx hb dL_law_985 (by decide) ?_
  refine lv_iadd hx hb dL_law_986 ?_
  refine lv_topi (fun v797 ev797 => ?_)
  obtain rfl : v797 = (4 : Int32) := ev797.trans (by decide)
  refine va_sld hx hb hX hbl hbA hS (by unfold vp_in; decide) dL_law_987 ?_
  refine W.eq (g2 := F0 m 988 ls [.int (xs 4), .int (xs 3), .int (xs 2), .int (xs 1), .ref (w 0), .long r793]) rfl ?_
  refine vp_callSl (W.runV (As := [.int (xs 1), .int (xs 2), .int (xs 3), .int (xs 4)]) (rest := [.long r793]) ⟨hx, hb, hml, hown, hts⟩ (c_X7_record l dC dI w cz ci (xs 1) (xs 2) (xs 3) (xs 4)) (cwV 4 hts gL_law_X7_record rfl rfl rfl (by decide +kernel) ⟨Nat.le_of_ble_eq_true rfl, Nat.le_of_ble_eq_true rfl⟩) ⟨mx_blind, va_recv hKm0 (xP_l hPm) (ci := 7) (q0 := 0) rfl rfl, fun U hU hW => ⟨rfl, mx_pre (xP_l hPm) hKm0 hU hW⟩⟩ rfl rfl hl.1 rfl (lv_room (Nat.le_of_ble_eq_true rfl)) dL_law_988 ⟨Nat.le_of_ble_eq_true rfl, Nat.le_of_ble_eq_true rfl⟩) (fun r798 hr798 => ?_)
  refine W.lcmp hx hb dL_law_991 ?_
  refine lv_if_eq (tgt := 1053) hx hb dL_law_992 (by decide) (fun c799 => ?_) (fun c799 => ?_)
  · exact lw_tail l C0 H locs hS ls hl 79 13150 (by decide) (by decide)
  · exact absurd ((lg_cmp_eq _ _).mpr (hr793.trans hr798.symm)) c799
set_option maxHeartbeats 4000000 in
set_option maxRecDepth 100000 in
theorem lw_c22 {p : Program} {e : Env} {s : State} {m : MethodId} {below : List Frame} {meth : Method} {c : Code} (l : Launch) {b : Nat} {xs : Nat → Int32} (C0 : lw_At p s m meth c b 7 xs) {dC : Nat → ClassId} {dI : Nat → Nat → Nat} {v : Nat → Nat} {cy : Nat → ClassId} {w u : Nat → Nat} {cz ci cO cW : ClassId} (hKx : va_K (dC, dI) vwCl (fxT cy) s) (hKm : va_K (dC, dI) vwCl (mxT2 cz ci cO cW) s) (H : Heap) (locs : List Loc) (hP : va_P (dC, dI) vwCl (fxW v cy ++ (mxW w cz ci ++ lgW w u cO cW)) H) (hD : va_D (fun q : Nat => s.heap.size ≤ q) (fxW v cy ++ (mxW w cz ci ++ lgW w u cO cW))) (hS : va_S (fun q : Nat => s.heap.size ≤ q) s.heap H locs) (ls : Array Slot) (hl : lv_has ls 4 [(3, .int 0), (2, .ref (w 0)), (1, .ref (v 0)), (0, .ref b)]) : W p l e room_1 s m #[Value.ref b] below meth c H locs 79 13150 (lw_Z below #[Value.ref b] s) (F0 m 997 ls []) := by
  obtain ⟨hx, hb, hr, hml, hown, hts0, hX, hbl, hlocks, hgv⟩ := id C0
  have hown : s.vm.findClass RL = some m.cls := hown
  have hts : ∀ w ∈ wsL_law, w.before #[Value.ref b] s = true := fun w h => hts0 w (wsL_law_in w h)
  have hA : ∀ q : Nat, s.heap.size ≤ q → (fun q : Nat => s.heap.size ≤ q) q := fun _ h => h
  have hbA : ¬ (fun q : Nat => s.heap.size ≤ q) b := Nat.not_le.mpr hbl
  have hKm0 : va_K (dC, dI) vwCl (mxT cz ci) s := hKm.sub [0, 1] rfl
  have hPm := xP_r hP
  have hDm := xD_r hD
  refine lv_aload_n hx hb dL_law_997 rfl (lv_at hl 2 rfl) ?_
  refine lv_aload_n hx hb dL_law_998 rfl (lv_at hl 3 rfl) ?_
  refine lv_iload_n hx hb dL_law_999 rfl (lv_at hl 0 rfl) ?_
  refine lv_iconst (v := 1) hx hb dL_law_1000 (by decide) ?_
  refine lv_iadd hx hb dL_law_1001 ?_
  refine lv_topi (fun v800 ev800 => ?_)
  obtain rfl : v800 = (1 : Int32) := ev800.trans (by decide)
  refine va_sld hx hb hX hbl hbA hS (by unfold vp_in; decide) dL_law_1002 ?_
  refine W.eq (g2 := F0 m 1003 ls [.int (xs 1), .ref (v 0)]) rfl ?_
  refine lv_aload_n hx hb dL_law_1003 rfl (lv_at hl 3 rfl) ?_
  refine lv_iload_n hx hb dL_law_1004 rfl (lv_at hl 0 rfl) ?_
  refine lv_iconst (v := 2) hx hb dL_law_1005 (by decide) ?_
  refine lv_iadd hx hb dL_law_1006 ?_
  refine lv_topi (fun v801 ev801 => ?_)
  obtain rfl : v801 = (2 : Int32) := ev801.trans (by decide)
  refine va_sld hx hb hX hbl hbA hS (by unfold vp_in; decide) dL_law_1007 ?_
  refine W.eq (g2 := F0 m 1008 ls [.int (xs 2), .int (xs 1), .ref (v 0)]) rfl ?_
  refine vp_callSi (W.runV (As := [.int (xs 1), .int (xs 2)]) (rest := []) ⟨hx, hb, hml, hown, hts⟩ (c_X5_state l dC dI v cy (xs 1) (xs 2)) (cwV 2 hts gL_law_X5_state rfl rfl rfl (by decide +kernel) ⟨Nat.le_of_ble_eq_true rfl, Nat.le_of_ble_eq_true rfl⟩) ⟨fx_blind, va_recv hKx (xP_l hP) (ci := 5) (q0 := 0) rfl rfl, fun U hU hW => ⟨rfl, fx_pre (xP_l hP) hKx hU hW⟩⟩ rfl rfl hl.1 rfl (lv_room (Nat.le_of_ble_eq_true rfl)) dL_law_1008 ⟨Nat.le_of_ble_eq_true rfl, Nat.le_of_ble_eq_true rfl⟩) (fun r802 hr802 => ?_)
  refine lv_aload_n hx hb dL_law_1011 rfl (lv_at hl 1 rfl) ?_
  refine lv_aload_n hx hb dL_law_1012 rfl (lv_at hl 3 rfl) ?_
  refine lv_iload_n hx hb dL_law_1013 rfl (lv_at hl 0 rfl) ?_
  refine lv_iconst (v := 1) hx hb dL_law_1014 (by decide) ?_
  refine lv_iadd hx hb dL_law_1015 ?_
  refine lv_topi (fun v803 ev803 => ?_)
  obtain rfl : v803 = (1 : Int32) := ev803.trans (by decide)
  refine va_sld hx hb hX hbl hbA hS (by unfold vp_in; decide) dL_law_1016 ?_
  refine W.eq (g2 := F0 m 1017 ls [.int (xs 1), .ref (w 0), .int r802]) rfl ?_
  refine lv_aload_n hx hb dL_law_1017 rfl (lv_at hl 3 rfl) ?_
  refine lv_iload_n hx hb dL_law_1018 rfl (lv_at hl 0 rfl) ?_
  refine lv_iconst (v := 2) hx hb dL_law_1019 (by decide) ?_
  refine lv_iadd hx hb dL_law_1020 ?_
  refine lv_topi (fun v804 ev804 => ?_)
  obtain rfl : v804 = (2 : Int32) := ev804.trans (by decide)
  refine va_sld hx hb hX hbl hbA hS (by unfold vp_in; decide) dL_law_1021 ?_
  refine W.eq (g2 := F0 m 1022 ls [.int (xs 2), .int (xs 1), .ref (w 0), .int r802]) rfl ?_
  refine vp_callSi (W.runV (As := [.int (xs 1), .int (xs 2)]) (rest := [.int r802]) ⟨hx, hb, hml, hown, hts⟩ (c_X7_state l dC dI w cz ci (xs 1) (xs 2)) (cwV 2 hts gL_law_X7_state rfl rfl rfl (by decide +kernel) ⟨Nat.le_of_ble_eq_true rfl, Nat.le_of_ble_eq_true rfl⟩) ⟨mx_blind, va_recv hKm0 (xP_l hPm) (ci := 7) (q0 := 0) rfl rfl, fun U hU hW => ⟨rfl, mx_pre (xP_l hPm) hKm0 hU hW⟩⟩ rfl rfl hl.1 rfl (lv_room (Nat.le_of_ble_eq_true rfl)) dL_law_1022 ⟨Nat.le_of_ble_eq_true rfl, Nat.le_of_ble_eq_true rfl⟩) (fun r805 hr805 => ?_)
  refine lv_icmp_eq (tgt := 1053) hx hb dL_law_1025 (by decide) (fun c806 => ?_) (fun c806 => ?_)
  · exact lw_tail l C0 H locs hS ls hl 79 13150 (by decide) (by decide)
  · exact absurd (hr802.trans hr805.symm) c806
set_option maxHeartbeats 4000000 in
set_option maxRecDepth 100000 in
theorem lw_c23 {p : Program} {e : Env} {s : State} {m : MethodId} {below : List Frame} {meth : Method} {c : Code} (l : Launch) {b : Nat} {xs : Nat → Int32} (C0 : lw_At p s m meth c b 7 xs) {dC : Nat → ClassId} {dI : Nat → Nat → Nat} {v : Nat → Nat} {cy : Nat → ClassId} {w u : Nat → Nat} {cz ci cO cW : ClassId} (hKx : va_K (dC, dI) vwCl (fxT cy) s) (hKm : va_K (dC, dI) vwCl (mxT2 cz ci cO cW) s) (H : Heap) (locs : List Loc) (hP : va_P (dC, dI) vwCl (fxW v cy ++ (mxW w cz ci ++ lgW w u cO cW)) H) (hD : va_D (fun q : Nat => s.heap.size ≤ q) (fxW v cy ++ (mxW w cz ci ++ lgW w u cO cW))) (hS : va_S (fun q : Nat => s.heap.size ≤ q) s.heap H locs) (ls : Array Slot) (hl : lv_has ls 4 [(3, .int 0), (2, .ref (w 0)), (1, .ref (v 0)), (0, .ref b)]) : W p l e room_1 s m #[Value.ref b] below meth c H locs 79 13150 (lw_Z below #[Value.ref b] s) (F0 m 1030 ls []) := by
  obtain ⟨hx, hb, hr, hml, hown, hts0, hX, hbl, hlocks, hgv⟩ := id C0
  have hown : s.vm.findClass RL = some m.cls := hown
  have hts : ∀ w ∈ wsL_law, w.before #[Value.ref b] s = true := fun w h => hts0 w (wsL_law_in w h)
  have hA : ∀ q : Nat, s.heap.size ≤ q → (fun q : Nat => s.heap.size ≤ q) q := fun _ h => h
  have hbA : ¬ (fun q : Nat => s.heap.size ≤ q) b := Nat.not_le.mpr hbl
  have hKm0 : va_K (dC, dI) vwCl (mxT cz ci) s := hKm.sub [0, 1] rfl
  have hPm := xP_r hP
  have hDm := xD_r hD
  refine lv_aload_n hx hb dL_law_1030 rfl (lv_at hl 2 rfl) ?_
  refine lv_aload_n hx hb dL_law_1031 rfl (lv_at hl 3 rfl) ?_
  refine lv_iload_n hx hb dL_law_1032 rfl (lv_at hl 0 rfl) ?_
  refine lv_iconst (v := 1) hx hb dL_law_1033 (by decide) ?_
  refine lv_iadd hx hb dL_law_1034 ?_
  refine lv_topi (fun v807 ev807 => ?_)
  obtain rfl : v807 = (1 : Int32) := ev807.trans (by decide)
  refine va_sld hx hb hX hbl hbA hS (by unfold vp_in; decide) dL_law_1035 ?_
  refine W.eq (g2 := F0 m 1036 ls [.int (xs 1), .ref (v 0)]) rfl ?_
  refine vp_callSi (W.runV (As := [.int (xs 1)]) (rest := []) ⟨hx, hb, hml, hown, hts⟩ (c_X5_count l dC dI v cy (xs 1)) (cwV 1 hts gL_law_X5_count rfl rfl rfl (by decide +kernel) ⟨Nat.le_of_ble_eq_true rfl, Nat.le_of_ble_eq_true rfl⟩) ⟨fx_blind, va_recv hKx (xP_l hP) (ci := 5) (q0 := 0) rfl rfl, fun U hU hW => ⟨rfl, fx_pre (xP_l hP) hKx hU hW⟩⟩ rfl rfl hl.1 rfl (lv_room (Nat.le_of_ble_eq_true rfl)) dL_law_1036 ⟨Nat.le_of_ble_eq_true rfl, Nat.le_of_ble_eq_true rfl⟩) (fun r808 hr808 => ?_)
  refine lv_aload_n hx hb dL_law_1039 rfl (lv_at hl 1 rfl) ?_
  refine lv_aload_n hx hb dL_law_1040 rfl (lv_at hl 3 rfl) ?_
  refine lv_iload_n hx hb dL_law_1041 rfl (lv_at hl 0 rfl) ?_
  refine lv_iconst (v := 1) hx hb dL_law_1042 (by decide) ?_
  refine lv_iadd hx hb dL_law_1043 ?_
  refine lv_topi (fun v809 ev809 => ?_)
  obtain rfl : v809 = (1 : Int32) := ev809.trans (by decide)
  refine va_sld hx hb hX hbl hbA hS (by unfold vp_in; decide) dL_law_1044 ?_
  refine W.eq (g2 := F0 m 1045 ls [.int (xs 1), .ref (w 0), .int r808]) rfl ?_
  refine vp_callSi (W.runV (As := [.int (xs 1)]) (rest := [.int r808]) ⟨hx, hb, hml, hown, hts⟩ (c_X7_count l dC dI w cz ci (xs 1)) (cwV 1 hts gL_law_X7_count rfl rfl rfl (by decide +kernel) ⟨Nat.le_of_ble_eq_true rfl, Nat.le_of_ble_eq_true rfl⟩) ⟨mx_blind, va_recv hKm0 (xP_l hPm) (ci := 7) (q0 := 0) rfl rfl, fun U hU hW => ⟨rfl, mx_pre (xP_l hPm) hKm0 hU hW⟩⟩ rfl rfl hl.1 rfl (lv_room (Nat.le_of_ble_eq_true rfl)) dL_law_1045 ⟨Nat.le_of_ble_eq_true rfl, Nat.le_of_ble_eq_true rfl⟩) (fun r810 hr810 => ?_)
  refine lv_icmp_eq (tgt := 1053) hx hb dL_law_1048 (by decide) (fun c811 => ?_) (fun c811 => ?_)
  · exact lw_tail l C0 H locs hS ls hl 79 13150 (by decide) (by decide)
  · exact absurd (hr808.trans hr810.symm) c811
