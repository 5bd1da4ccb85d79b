set_option maxHeartbeats 4000000 in
set_option maxRecDepth 100000 in
/-- the loop's head: out, or one turn more -/
theorem lw_head {p : Program} {e : Env} {s : State} {m : MethodId} {below : List Frame} {meth : Method} {c : Code} (l : Launch) {b Ls : Nat} {xs : Nat → Int32} (C0 : lw_At p s m meth c b Ls xs) {dC : Nat → ClassId} {dI : Nat → Nat → Nat} {cy : Nat → ClassId} {v : Nat → Nat} {N : Nat → Nat} {cz : Nat → ClassId} {w : Nat → Nat} {Lm : List Nat} {Km Nm : Nat → Nat} {Tm : Nat → Nat → Nat} {Qm : Nat → Nat → Option Nat} (hKx : va_K (dC, dI) vwCl (pTy cy) s) (hKm : va_K (dC, dI) vwCl (mTy cz) s) (hN : xN s) (hM : MS w Lm Km Nm Tm Qm) (hLs : Ls ≤ 448) (k : Nat) (hk : k ≤ 64) (L : List Nat) (K : Nat → Nat) (T : Nat → Nat → Nat) (I : Nat → Nat → Int32) (Q : Nat → Nat → Option Nat) (J Im Jm : Nat → Nat → Int32) (H : Heap) (locs : List Loc) (ls : Array Slot) (hS : va_S (fun q : Nat => s.heap.size ≤ q) s.heap H locs) (hl : lv_has ls 4 [(3, .int (nI (7 * k))), (2, .ref (w 0)), (1, .ref (v 0)), (0, .ref b)]) (hB : 7 * k + 7 ≤ Ls → ∀ ls : Array Slot, lv_has ls 4 [(3, .int (nI (7 * k))), (2, .ref (w 0)), (1, .ref (v 0)), (0, .ref b)] → W p l e room_1 s m #[Value.ref b] below meth c H locs (79 + 12 * k) (13150 + 346 * k) (lw_Z below #[Value.ref b] s) (F0 m 27 ls [])) : W p l e room_1 s m #[Value.ref b] below meth c H locs (79 + 12 * k) (13150 + 346 * k) (lw_Z below #[Value.ref b] s) (F0 m 18 ls []) := by
  obtain ⟨hx, hb, hr, hml, hown, hts0, hX, hbl, hlocks, hgv⟩ := id C0
  have hown : s.vm.findClass RL = some m.cls := hown
  have hts : ∀ w ∈ wsL_law, w.before #[Value.ref b] s = true := fun w h => hts0 w (wsL_law_in w h)
  have hA : ∀ q : Nat, s.heap.size ≤ q → (fun q : Nat => s.heap.size ≤ q) q := fun _ h => h
  have hbA : ¬ (fun q : Nat => s.heap.size ≤ q) b := Nat.not_le.mpr hbl
  refine lv_iload_n hx hb dL_law_18 rfl (lv_at hl 0 rfl) ?_
  refine lv_aload_n hx hb dL_law_19 rfl (lv_at hl 3 rfl) ?_
  refine va_slen hx hb hX hbl hbA hS dL_law_20 ?_
  refine lv_bipush (v := 7) hx hb dL_law_21 (by decide) ?_
  refine lv_isub hx hb dL_law_23 ?_
  refine lv_topi (fun v1 ev1 => ?_)
  have hv1 : v1.toInt = (Ls : Int) - 7 := by rw [ev1]; exact xlen7 hLs
  have hi : (nI (7 * k)).toInt = ((7 * k : Nat) : Int) := nI_toInt (by omega)
  refine lv_icmp_gt (tgt := 1058) hx hb dL_law_24 (by decide) (fun c9 => ?_) (fun c9 => ?_)
  · refine lv_iconst (v := 1) hx hb dL_law_1058 (by decide) ?_
    refine va_forget (fun q hq => hS.2.2 q hq) ?_
    refine W.widen (k := 600000) (n := 7302250) (by omega) (by omega) ?_
    exact lw_ret hx hb hr hlocks dL_law_1059
  · have h7 : ¬ v1.toInt < (nI (7 * k)).toInt := fun h => c9 (by rw [xk_lt]; exact h)
    exact hB (by omega) ls hl
set_option maxHeartbeats 4000000 in
set_option maxRecDepth 100000 in
/-- one turn: the call that the script says -/
theorem lw_body {p : Program} {e : Env} {s : State} {m : MethodId} {below : List Frame} {meth : Method} {c : Code} (l : Launch) {b Ls : Nat} {xs : Nat → Int32} (C0 : lw_At p s m meth c b Ls xs) {dC : Nat → ClassId} {dI : Nat → Nat → Nat} {cy : Nat → ClassId} {v : Nat → Nat} {N : Nat → Nat} {cz : Nat → ClassId} {w : Nat → Nat} {Lm : List Nat} {Km Nm : Nat → Nat} {Tm : Nat → Nat → Nat} {Qm : Nat → Nat → Option Nat} (hKx : va_K (dC, dI) vwCl (pTy cy) s) (hKm : va_K (dC, dI) vwCl (mTy cz) s) (hN : xN s) (hM : MS w Lm Km Nm Tm Qm) (hLs : Ls ≤ 448) (k : Nat) (hk : 7 * k + 7 ≤ Ls) (hT : ∀ (L : List Nat) (K : Nat → Nat) (T : Nat → Nat → Nat) (I : Nat → Nat → Int32) (Q : Nat → Nat → Option Nat) (J Im Jm : Nat → Nat → Int32) (H : Heap) (locs : List Loc) (ls : Array Slot), lwI dC dI cy v N cz w Lm Km Nm Tm Qm (fun q : Nat => s.heap.size ≤ q) H (k + 1) L K T I Q J Im Jm → va_S (fun q : Nat => s.heap.size ≤ q) s.heap H locs → lv_has ls 4 [(3, .int (nI (7 * k))), (2, .ref (w 0)), (1, .ref (v 0)), (0, .ref b)] → W p l e room_1 s m #[Value.ref b] below meth c H locs (79 + 12 * (k + 1)) (13150 + 346 * (k + 1)) (lw_Z below #[Value.ref b] s) (F0 m 1052 ls [])) (L : List Nat) (K : Nat → Nat) (T : Nat → Nat → Nat) (I : Nat → Nat → Int32) (Q : Nat → Nat → Option Nat) (J Im Jm : Nat → Nat → Int32) (H : Heap) (locs : List Loc) (ls : Array Slot) (h0 : lwI dC dI cy v N cz w Lm Km Nm Tm Qm (fun q : Nat => s.heap.size ≤ q) H k L K T I Q J Im Jm) (hS : va_S (fun q : Nat => s.heap.size ≤ q) s.heap H locs) (hl : lv_has ls 4 [(3, .int (nI (7 * k))), (2, .ref (w 0)), (1, .ref (v 0)), (0, .ref b)]) : W p l e room_1 s m #[Value.ref b] below meth c H locs (79 + 12 * k) (13150 + 346 * k) (lw_Z below #[Value.ref b] s) (F0 m 27 ls []) := by
  obtain ⟨hx, hb, hr, hml, hown, hts0, hX, hbl, hlocks, hgv⟩ := id C0
  have hown : s.vm.findClass RL = some m.cls := hown
  have hts : ∀ w ∈ wsL_law, w.before #[Value.ref b] s = true := fun w h => hts0 w (wsL_law_in w h)
  have hA : ∀ q : Nat, s.heap.size ≤ q → (fun q : Nat => s.heap.size ≤ q) q := fun _ h => h
  have hbA : ¬ (fun q : Nat => s.heap.size ≤ q) b := Nat.not_le.mpr hbl
  refine lv_aload_n hx hb dL_law_27 rfl (lv_at hl 3 rfl) ?_
  refine lv_iload_n hx hb dL_law_28 rfl (lv_at hl 0 rfl) ?_
  refine va_sld hx hb hX hbl hbA hS (nI_in (by omega) (by omega)) dL_law_29 ?_
  refine lv_bipush (v := 31) hx hb dL_law_30 (by decide) ?_
  refine lv_iand hx hb dL_law_32 ?_
  refine lv_topi (fun va eva => ?_)
  obtain ⟨j, hj, ej⟩ := pk_andE (xs (nI (7 * k)).toNatClampNeg) (m := 31) 5 (by decide)
  rw [ej] at eva
  rcases (show j = 0 ∨ j = 1 ∨ j = 2 ∨ j = 3 ∨ j = 4 ∨ j = 5 ∨ j = 6 ∨ j = 7 ∨ j = 8 ∨ j = 9 ∨ j = 10 ∨ j = 11 ∨ j = 12 ∨ j = 13 ∨ j = 14 ∨ j = 15 ∨ j = 16 ∨ j = 17 ∨ j = 18 ∨ j = 19 ∨ j = 20 ∨ j = 21 ∨ j = 22 ∨ j = 23 ∨ 24 ≤ j by omega) with rfl | rfl | rfl | rfl | rfl | rfl | rfl | rfl | rfl | rfl | rfl | rfl | rfl | rfl | rfl | rfl | rfl | rfl | rfl | rfl | rfl | rfl | rfl | rfl | hj24
  · obtain rfl : va = 0 := eva
    refine lv_tableIn (off := 111) (tgt := 144) hx hb dL_law_33 (by decide) (by decide) (by decide +kernel) (by decide) ?_
    exact lw_c0 l C0 hKx hKm hN hM hLs k hk hT L K T I Q J Im Jm H locs ls h0 hS hl
  · obtain rfl : va = 1 := eva
    refine lv_tableIn (off := 154) (tgt := 187) hx hb dL_law_33 (by decide) (by decide) (by decide +kernel) (by decide) ?_
    exact lw_c1 l C0 hKx hKm hN hM hLs k hk hT L K T I Q J Im Jm H locs ls h0 hS hl
  · obtain rfl : va = 2 := eva
    refine lv_tableIn (off := 203) (tgt := 236) hx hb dL_law_33 (by decide) (by decide) (by decide +kernel) (by decide) ?_
    exact lw_c2 l C0 hKx hKm hN hM hLs k hk hT L K T I Q J Im Jm H locs ls h0 hS hl
  · obtain rfl : va = 3 := eva
    refine lv_tableIn (off := 226) (tgt := 259) hx hb dL_law_33 (by decide) (by decide) (by decide +kernel) (by decide) ?_
    exact lw_c3 l C0 hKx hKm hN hM hLs k hk hT L K T I Q J Im Jm H locs ls h0 hS hl
  · obtain rfl : va = 4 := eva
    refine lv_tableIn (off := 317) (tgt := 350) hx hb dL_law_33 (by decide) (by decide) (by decide +kernel) (by decide) ?_
    exact lw_c4 l C0 hKx hKm hN hM hLs k hk hT L K T I Q J Im Jm H locs ls h0 hS hl
  · obtain rfl : va = 5 := eva
    refine lv_tableIn (off := 350) (tgt := 383) hx hb dL_law_33 (by decide) (by decide) (by decide +kernel) (by decide) ?_
    exact lw_c5 l C0 hKx hKm hN hM hLs k hk hT L K T I Q J Im Jm H locs ls h0 hS hl
  · obtain rfl : va = 6 := eva
    refine lv_tableIn (off := 383) (tgt := 416) hx hb dL_law_33 (by decide) (by decide) (by decide +kernel) (by decide) ?_
    exact lw_c6 l C0 hKx hKm hN hM hLs k hk hT L K T I Q J Im Jm H locs ls h0 hS hl
  · obtain rfl : va = 7 := eva
    refine lv_tableIn (off := 406) (tgt := 439) hx hb dL_law_33 (by decide) (by decide) (by decide +kernel) (by decide) ?_
    exact lw_c7 l C0 hKx hKm hN hM hLs k hk hT L K T I Q J Im Jm H locs ls h0 hS hl
  · obtain rfl : va = 8 := eva
    refine lv_tableIn (off := 455) (tgt := 488) hx hb dL_law_33 (by decide) (by decide) (by decide +kernel) (by decide) ?_
    exact lw_c8 l C0 hKx hKm hN hM hLs k hk hT L K T I Q J Im Jm H locs ls h0 hS hl
  · obtain rfl : va = 9 := eva
    refine lv_tableIn (off := 478) (tgt := 511) hx hb dL_law_33 (by decide) (by decide) (by decide +kernel) (by decide) ?_
    exact lw_c9 l C0 hKx hKm hN hM hLs k hk hT L K T I Q J Im Jm H locs ls h0 hS hl
  · obtain rfl : va = 10 := eva
    refine lv_tableIn (off := 537) (tgt := 570) hx hb dL_law_33 (by decide) (by decide) (by decide +kernel) (by decide) ?_
    exact lw_c10 l C0 hKx hKm hN hM hLs k hk hT L K T I Q J Im Jm H locs ls h0 hS hl
  · obtain rfl : va = 11 := eva
    refine lv_tableIn (off := 560) (tgt := 593) hx hb dL_law_33 (by decide) (by decide) (by decide +kernel) (by decide) ?_
    exact lw_c11 l C0 hKx hKm hN hM hLs k hk hT L K T I Q J Im Jm H locs ls h0 hS hl
  · obtain rfl : va = 12 := eva
    refine lv_tableIn (off := 593) (tgt := 626) hx hb dL_law_33 (by decide) (by decide) (by decide +kernel) (by decide) ?_
    exact lw_c12 l C0 hKx hKm hN hM hLs k hk hT L K T I Q J Im Jm H locs ls h0 hS hl
  · obtain rfl : va = 13 := eva
    refine lv_tableIn (off := 626) (tgt := 659) hx hb dL_law_33 (by decide) (by decide) (by decide +kernel) (by decide) ?_
    exact lw_c13 l C0 hKx hKm hN hM hLs k hk hT L K T I Q J Im Jm H locs ls h0 hS hl
  · obtain rfl : va = 14 := eva
    refine lv_tableIn (off := 689) (tgt := 722) hx hb dL_law_33 (by decide) (by decide) (by decide +kernel) (by decide) ?_
    exact lw_c14 l C0 hKx hKm hN hM hLs k hk hT L K T I Q J Im Jm H locs ls h0 hS hl
  · obtain rfl : va = 15 := eva
    refine lv_tableIn (off := 722) (tgt := 755) hx hb dL_law_33 (by decide) (by decide) (by decide +kernel) (by decide) ?_
    exact lw_c15 l C0 hKx hKm hN hM hLs k hk hT L K T I Q J Im Jm H locs ls h0 hS hl
  · obtain rfl : va = 16 := eva
    refine lv_tableIn (off := 745) (tgt := 778) hx hb dL_law_33 (by decide) (by decide) (by decide +kernel) (by decide) ?_
    exact lw_c16 l C0 hKx hKm hN hM hLs k hk hT L K T I Q J Im Jm H locs ls h0 hS hl
  · obtain rfl : va = 17 := eva
    refine lv_tableIn (off := 778) (tgt := 811) hx hb dL_law_33 (by decide) (by decide) (by decide +kernel) (by decide) ?_
    exact lw_c17 l C0 hKx hKm hN hM hLs k hk hT L K T I Q J Im Jm H locs ls h0 hS hl
  · obtain rfl : va = 18 := eva
    refine lv_tableIn (off := 811) (tgt := 844) hx hb dL_law_33 (by decide) (by decide) (by decide +kernel) (by decide) ?_
    exact lw_c18 l C0 hKx hKm hN hM hLs k hk hT L K T I Q J Im Jm H locs ls h0 hS hl
  · obtain rfl : va = 19 := eva
    refine lv_tableIn (off := 834) (tgt := 867) hx hb dL_law_33 (by decide) (by decide) (by decide +kernel) (by decide) ?_
    exact lw_c19 l C0 hKx hKm hN hM hLs k hk hT L K T I Q J Im Jm H locs ls h0 hS hl
  · obtain rfl : va = 20 := eva
    refine lv_tableIn (off := 867) (tgt := 900) hx hb dL_law_33 (by decide) (by decide) (by decide +kernel) (by decide) ?_
    exact lw_c20 l C0 hKx hKm hN hM hLs k hk hT L K T I Q J Im Jm H locs ls h0 hS hl
  · obtain rfl : va = 21 := eva
    refine lv_tableIn (off := 910) (tgt := 943) hx hb dL_law_33 (by decide) (by decide) (by decide +kernel) (by decide) ?_
    exact lw_c21 l C0 hKx hKm hN hM hLs k hk hT L K T I Q J Im Jm H locs ls h0 hS hl
  · obtain rfl : va = 22 := eva
    refine lv_tableIn (off := 963) (tgt := 996) hx hb dL_law_33 (by decide) (by decide) (by decide +kernel) (by decide) ?_
    exact lw_c22 l C0 hKx hKm hN hM hLs k hk hT L K T I Q J Im Jm H locs ls h0 hS hl
  · obtain rfl : va = 23 := eva
    refine lv_tableIn (off := 996) (tgt := 1029) hx hb dL_law_33 (by decide) (by decide) (by decide +kernel) (by decide) ?_
    exact lw_c23 l C0 hKx hKm hN hM hLs k hk hT L K T I Q J Im Jm H locs ls h0 hS hl
  · refine lv_tableOut (tgt := 1052) hx hb dL_law_33 (Or.inr (by rw [eva, nI_toInt (by omega)]; omega)) (by decide) ?_
    obtain ⟨hC, hI, hSR, hP, hD⟩ := h0
    refine W.widen (k := 79 + 12 * (k + 1)) (n := 13150 + 346 * (k + 1)) (by omega) (by omega) ?_
    exact hT L K T I Q J Im Jm H locs ls ⟨hC, hI.mono (by omega), hSR, hP, hD⟩ hS hl
set_option maxHeartbeats 4000000 in
set_option maxRecDepth 100000 in
/-- the whole loop -/
theorem lw_loop {p : Program} {e : Env} {s : State} {m : MethodId} {below : List Frame} {meth : Method} {c : Code} (l : Launch) {b Ls : Nat} {xs : Nat → Int32} (C0 : lw_At p s m meth c b Ls xs) {dC : Nat → ClassId} {dI : Nat → Nat → Nat} {cy : Nat → ClassId} {v : Nat → Nat} {N : Nat → Nat} {cz : Nat → ClassId} {w : Nat → Nat} {Lm : List Nat} {Km Nm : Nat → Nat} {Tm : Nat → Nat → Nat} {Qm : Nat → Nat → Option Nat} (hKx : va_K (dC, dI) vwCl (pTy cy) s) (hKm : va_K (dC, dI) vwCl (mTy cz) s) (hN : xN s) (hM : MS w Lm Km Nm Tm Qm) (hLs : Ls ≤ 448) : ∀ (n k : Nat), k + n = 64 → ∀ (L : List Nat) (K : Nat → Nat) (T : Nat → Nat → Nat) (I : Nat → Nat → Int32) (Q : Nat → Nat → Option Nat) (J Im Jm : Nat → Nat → Int32) (H : Heap) (locs : List Loc) (ls : Array Slot), lwI dC dI cy v N cz w Lm Km Nm Tm Qm (fun q : Nat => s.heap.size ≤ q) H k L K T I Q J Im Jm → va_S (fun q : Nat => s.heap.size ≤ q) s.heap H locs → lv_has ls 4 [(3, .int (nI (7 * k))), (2, .ref (w 0)), (1, .ref (v 0)), (0, .ref b)] → W p l e room_1 s m #[Value.ref b] below meth c H locs (79 + 12 * k) (13150 + 346 * k) (lw_Z below #[Value.ref b] s) (F0 m 18 ls []) := by
  obtain ⟨hx, hb, hr, hml, hown, hts0, hX, hbl, hlocks, hgv⟩ := id C0
  have hown : s.vm.findClass RL = some m.cls := hown
  have hts : ∀ w ∈ wsL_law, w.before #[Value.ref b] s = true := fun w h => hts0 w (wsL_law_in w h)
  have hA : ∀ q : Nat, s.heap.size ≤ q → (fun q : Nat => s.heap.size ≤ q) q := fun _ h => h
  have hbA : ¬ (fun q : Nat => s.heap.size ≤ q) b := Nat.not_le.mpr hbl
  intro n
  induction n with
  | zero =>
    intro k hk L K T I Q J Im Jm H locs ls h0 hS hl
    exact lw_head (N := N) l C0 hKx hKm hN hM hLs k (by omega) L K T I Q J Im Jm H locs ls hS hl (fun h => by omega)
  | succ n ih =>
    intro k hk L K T I Q J Im Jm H locs ls h0 hS hl
    refine lw_head (N := N) l C0 hKx hKm hN hM hLs k (by omega) L K T I Q J Im Jm H locs ls hS hl (fun h7 ls hl => ?_)
    refine lw_body l C0 hKx hKm hN hM hLs k h7 (fun L K T I Q J Im Jm H locs ls h0 hS hl => ?_) L K T I Q J Im Jm H locs ls h0 hS hl
    refine lv_iinc (v := nI (7 * (k + 1))) (lv' := [(3, .int (nI (7 * (k + 1)))), (2, .ref (w 0)), (1, .ref (v 0)), (0, .ref b)]) hx hb dL_law_1052 hl (k := 0) rfl (nI_add (7 * k) 7) (by decide) rfl (fun ls hl => ?_)
    refine lv_goto (tgt := 18) hx hb dL_law_1055 (by decide) ?_
    exact ih (k + 1) (by omega) L K T I Q J Im Jm H locs ls h0 hS hl
