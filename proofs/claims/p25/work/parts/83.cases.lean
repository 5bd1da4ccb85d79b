set_option maxHeartbeats 4000000 in
set_option maxRecDepth 100000 in
theorem lw_c6 {p : Program} {e : Env} {s : State} {m : MethodId} {below : List Frame} {meth : Method} {c : Code} (l : Launch) {b Ls : Nat} {xs : Nat → Int32} (C0 : lw_At p s m meth c b Ls xs) {dC : Nat → ClassId} {dI : Nat → Nat → Nat} {cy : Nat → ClassId} {v : Nat → Nat} {N : Nat → Nat} {cz : Nat → ClassId} {w : Nat → Nat} {Lm : List Nat} {Km Nm : Nat → Nat} {Tm : Nat → Nat → Nat} {Qm : Nat → Nat → Option Nat} (hKx : va_K (dC, dI) vwCl (pTy cy) s) (hKm : va_K (dC, dI) vwCl (mTy cz) s) (hN : xN s) (hM : MS w Lm Km Nm Tm Qm) (hLs : Ls ≤ 448) (k : Nat) (hk : 7 * k + 7 ≤ Ls) (hT : ∀ (L : List Nat) (K : Nat → Nat) (T : Nat → Nat → Nat) (I : Nat → Nat → Int32) (Q : Nat → Nat → Option Nat) (J Im Jm : Nat → Nat → Int32) (H : Heap) (locs : List Loc) (ls : Array Slot), lwI dC dI cy v N cz w Lm Km Nm Tm Qm (fun q : Nat => s.heap.size ≤ q) H (k + 1) L K T I Q J Im Jm → va_S (fun q : Nat => s.heap.size ≤ q) s.heap H locs → lv_has ls 4 [(3, .int (nI (7 * k))), (2, .ref (w 0)), (1, .ref (v 0)), (0, .ref b)] → W p l e room_1 s m #[Value.ref b] below meth c H locs (79 + 12 * (k + 1)) (13150 + 346 * (k + 1)) (lw_Z below #[Value.ref b] s) (F0 m 1052 ls [])) (L : List Nat) (K : Nat → Nat) (T : Nat → Nat → Nat) (I : Nat → Nat → Int32) (Q : Nat → Nat → Option Nat) (J Im Jm : Nat → Nat → Int32) (H : Heap) (locs : List Loc) (ls : Array Slot) (h0 : lwI dC dI cy v N cz w Lm Km Nm Tm Qm (fun q : Nat => s.heap.size ≤ q) H k L K T I Q J Im Jm) (hS : va_S (fun q : Nat => s.heap.size ≤ q) s.heap H locs) (hl : lv_has ls 4 [(3, .int (nI (7 * k))), (2, .ref (w 0)), (1, .ref (v 0)), (0, .ref b)]) : W p l e room_1 s m #[Value.ref b] below meth c H locs (79 + 12 * k) (13150 + 346 * k) (lw_Z below #[Value.ref b] s) (F0 m 416 ls []) := by
  obtain ⟨hx, hb, hr, hml, hown, hts0, hX, hbl, hlocks, hgv⟩ := id C0
  have hown : s.vm.findClass RL = some m.cls := hown
  have hts : ∀ w ∈ wsL_law, w.before #[Value.ref b] s = true := fun w h => hts0 w (wsL_law_in w h)
  have hA : ∀ q : Nat, s.heap.size ≤ q → (fun q : Nat => s.heap.size ≤ q) q := fun _ h => h
  have hbA : ¬ (fun q : Nat => s.heap.size ≤ q) b := Nat.not_le.mpr hbl
  obtain ⟨hC, hI, hSR, hP, hD⟩ := h0
  obtain ⟨pa, ra, σ, hE, hMR, hSK⟩ := hSR
  have hLA : LA (5 * (k : Int)) σ := fun j hj => hMR.ml hj (hI.1 j hj)
  have hB : B5 (σ.1 0 0) := by rw [← hMR.1.1]; exact hI.2.2
  refine lv_aload_n hx hb dL_law_416 rfl (lv_at hl 2 rfl) ?_
  refine lv_aload_n hx hb dL_law_417 rfl (lv_at hl 3 rfl) ?_
  refine lv_iload_n hx hb dL_law_418 rfl (lv_at hl 0 rfl) ?_
  refine lv_iconst (v := 1) hx hb dL_law_419 (by decide) ?_
  refine lv_iadd hx hb dL_law_420 ?_
  refine lv_topi (fun v1974 ev1974 => ?_)
  obtain rfl : v1974 = nI (7 * k + 1) := ev1974.trans (nI_add (7 * k) 1)
  refine va_sld hx hb hX hbl hbA hS (nI_in (by omega) (by omega)) dL_law_421 ?_
  refine W.eq (g2 := F0 m 422 ls [.int (xs (7 * k + 1)), .ref (v 0)]) (by rw [nI_clamp (by omega)]) ?_
  obtain ⟨j1976, hj1976⟩ := pG_5 (cy := cy) (N := N) (T := T) (I := I) (Q := Q) (J := J) (hC.at 0 (by decide)) (hC.k 0 (by decide) rfl)
  have hFc := xfree (xD_l hD) hS hA
  refine va_calli (va_runV (As := [.int (xs (7 * k + 1))]) (rest := []) ⟨hx, hb, hml, hown, hts⟩ (g_X5_begin l dC dI cy v L K N T I Q J H.size pa ra (kxo σ) σ (5 * (k : Int)) (xs (7 * k + 1)) hE rfl hSK hLA (by omega) hB) (cwV 1 hts gL_law_X5_begin rfl rfl rfl (by decide +kernel) ⟨Nat.le_of_ble_eq_true rfl, Nat.le_of_ble_eq_true rfl⟩) ⟨pw_blind, va_recv hKx (xP_l hP) (ci := 5) (q0 := j1976) rfl hj1976, fun U hU hW => ⟨rfl, pw_pre (xP_l hP) hKx hN (xD_l hD) hU hW⟩⟩ rfl rfl hl.1 rfl (lv_room (Nat.le_of_ble_eq_true rfl)) dL_law_422 ⟨show (79 + 12 * k) + 0 ≤ 600000 by omega, show (13150 + 346 * k) + 0 ≤ 7302250 by omega⟩) hS (fun q _ h => hFc q h) hFc (fun r1975 d9 t H locs ht hvm hr1975 hB9 hz1 hk1 hS => ?_)
  obtain ⟨I, Q, J⟩ := d9
  obtain ⟨hP1, hK1, hD1⟩ := hB9
  rw [ht] at hP1
  have hPn : va_P (dC, dI) vwCl (va_pl L (pF cy K N T I Q J) ++ va_pl Lm (wF cz Km Nm Tm Im Qm Jm)) H := va_P.app hP1 (xj_keep hP hD hk1)
  have hD : va_D (fun q : Nat => s.heap.size ≤ q) (va_pl L (pF cy K N T I Q J) ++ va_pl Lm (wF cz Km Nm Tm Im Qm Jm)) := xj_D hP hD hD1 hFc
  have hP := hPn
  obtain ⟨hE2, hr5⟩ := hr1975
  have hE2 : REP v pa ra L K N T I Q J (kxo (qBg σ (xs (7 * k + 1))).1) (qBg σ (xs (7 * k + 1))).1 := hE2
  have hr5 : r1975 = (qBg σ (xs (7 * k + 1))).2 := hr5
  have hC := hE2.ct
  refine lv_pop hx hb dL_law_425 rfl ?_
  refine lv_aload_n hx hb dL_law_426 rfl (lv_at hl 1 rfl) ?_
  refine lv_aload_n hx hb dL_law_427 rfl (lv_at hl 3 rfl) ?_
  refine lv_iload_n hx hb dL_law_428 rfl (lv_at hl 0 rfl) ?_
  refine lv_iconst (v := 1) hx hb dL_law_429 (by decide) ?_
  refine lv_iadd hx hb dL_law_430 ?_
  refine lv_topi (fun v1977 ev1977 => ?_)
  obtain rfl : v1977 = nI (7 * k + 1) := ev1977.trans (nI_add (7 * k) 1)
  refine va_sld hx hb hX hbl hbA hS (nI_in (by omega) (by omega)) dL_law_431 ?_
  refine W.eq (g2 := F0 m 432 ls [.int (xs (7 * k + 1)), .ref (w 0)]) (by rw [nI_clamp (by omega)]) ?_
  obtain ⟨j1979, hj1979⟩ := wG_7 (cy := cz) (N := Nm) (T := Tm) (I := Im) (Q := Qm) (J := Jm) (hM.at 0 (by decide)) (hM.k 0 (by decide) rfl)
  have hPs := xswapP hP
  have hDs := xswapD hD
  have hFc := xfree (xD_l hDs) hS hA
  refine va_calli (va_runV (As := [.int (xs (7 * k + 1))]) (rest := []) ⟨hx, hb, hml, hown, hts⟩ (f_X7_begin l dC dI cz w Lm Km Nm Tm Qm Im Jm H.size (5 * (k : Int)) (xs (7 * k + 1)) σ hM hI (by omega) hMR) (cwV 1 hts gL_law_X7_begin rfl rfl rfl (by decide +kernel) ⟨Nat.le_of_ble_eq_true rfl, Nat.le_of_ble_eq_true rfl⟩) ⟨mw_blind, va_recv hKm (xP_r hP) (ci := 7) (q0 := j1979) rfl hj1979, fun U hU hW => ⟨rfl, mw_pre (xP_r hP) hKm (xD_r hD) hU hW⟩⟩ rfl rfl hl.1 rfl (lv_room (Nat.le_of_ble_eq_true rfl)) dL_law_432 ⟨show (79 + 12 * k + 0) + 0 ≤ 600000 by omega, show (13150 + 346 * k + 0) + 0 ≤ 7302250 by omega⟩) hS (fun q _ h => hFc q h) hFc (fun r1978 d9 t H locs ht hvm hr1978 hB9 hz1 hk1 hS => ?_)
  obtain ⟨Im, Jm⟩ := d9
  obtain ⟨hP1, hK1, hD1⟩ := hB9
  rw [ht] at hP1
  have hP : va_P (dC, dI) vwCl (va_pl L (pF cy K N T I Q J) ++ va_pl Lm (wF cz Km Nm Tm Im Qm Jm)) H := va_P.app (xj_keep hPs hDs hk1) hP1
  have hD : va_D (fun q : Nat => s.heap.size ≤ q) (va_pl L (pF cy K N T I Q J) ++ va_pl Lm (wF cz Km Nm Tm Im Qm Jm)) := xswapD (xj_D hPs hDs hD1 hFc)
  have hI : MI w (5 * (k : Int) + 5) Im Jm := hr1978.1
  obtain ⟨hMR2, hr7⟩ := hr1978.2
  have hMR2 : MR w Im Jm (qBg σ (xs (7 * k + 1))).1 := hMR2
  have hr7 : r1978 = (qBg σ (xs (7 * k + 1))).2 := hr7
  refine lv_pop hx hb dL_law_435 rfl ?_
  refine lv_goto (tgt := 1052) hx hb dL_law_436 (by decide) ?_
  refine W.widen (k := 79 + 12 * (k + 1)) (n := 13150 + 346 * (k + 1)) (by omega) (by omega) ?_
  exact hT L K T I Q J Im Jm H locs ls ⟨hC, hI.mono (by omega), ⟨pa, ra, _, hE2, hMR2, hSK.bg (xs (7 * k + 1))⟩, hP, hD⟩ hS hl
set_option maxHeartbeats 4000000 in
set_option maxRecDepth 100000 in
theorem lw_c7 {p : Program} {e : Env} {s : State} {m : MethodId} {below : List Frame} {meth : Method} {c : Code} (l : Launch) {b Ls : Nat} {xs : Nat → Int32} (C0 : lw_At p s m meth c b Ls xs) {dC : Nat → ClassId} {dI : Nat → Nat → Nat} {cy : Nat → ClassId} {v : Nat → Nat} {N : Nat → Nat} {cz : Nat → ClassId} {w : Nat → Nat} {Lm : List Nat} {Km Nm : Nat → Nat} {Tm : Nat → Nat → Nat} {Qm : Nat → Nat → Option Nat} (hKx : va_K (dC, dI) vwCl (pTy cy) s) (hKm : va_K (dC, dI) vwCl (mTy cz) s) (hN : xN s) (hM : MS w Lm Km Nm Tm Qm) (hLs : Ls ≤ 448) (k : Nat) (hk : 7 * k + 7 ≤ Ls) (hT : ∀ (L : List Nat) (K : Nat → Nat) (T : Nat → Nat → Nat) (I : Nat → Nat → Int32) (Q : Nat → Nat → Option Nat) (J Im Jm : Nat → Nat → Int32) (H : Heap) (locs : List Loc) (ls : Array Slot), lwI dC dI cy v N cz w Lm Km Nm Tm Qm (fun q : Nat => s.heap.size ≤ q) H (k + 1) L K T I Q J Im Jm → va_S (fun q : Nat => s.heap.size ≤ q) s.heap H locs → lv_has ls 4 [(3, .int (nI (7 * k))), (2, .ref (w 0)), (1, .ref (v 0)), (0, .ref b)] → W p l e room_1 s m #[Value.ref b] below meth c H locs (79 + 12 * (k + 1)) (13150 + 346 * (k + 1)) (lw_Z below #[Value.ref b] s) (F0 m 1052 ls [])) (L : List Nat) (K : Nat → Nat) (T : Nat → Nat → Nat) (I : Nat → Nat → Int32) (Q : Nat → Nat → Option Nat) (J Im Jm : Nat → Nat → Int32) (H : Heap) (locs : List Loc) (ls : Array Slot) (h0 : lwI dC dI cy v N cz w Lm Km Nm Tm Qm (fun q : Nat => s.heap.size ≤ q) H k L K T I Q J Im Jm) (hS : va_S (fun q : Nat => s.heap.size ≤ q) s.heap H locs) (hl : lv_has ls 4 [(3, .int (nI (7 * k))), (2, .ref (w 0)), (1, .ref (v 0)), (0, .ref b)]) : W p l e room_1 s m #[Value.ref b] below meth c H locs (79 + 12 * k) (13150 + 346 * k) (lw_Z below #[Value.ref b] s) (F0 m 439 ls []) := by
  obtain ⟨hx, hb, hr, hml, hown, hts0, hX, hbl, hlocks, hgv⟩ := id C0
  have hown : s.vm.findClass RL = some m.cls := hown
  have hts : ∀ w ∈ wsL_law, w.before #[Value.ref b] s = true := fun w h => hts0 w (wsL_law_in w h)
  have hA : ∀ q : Nat, s.heap.size ≤ q → (fun q : Nat => s.heap.size ≤ q) q := fun _ h => h
  have hbA : ¬ (fun q : Nat => s.heap.size ≤ q) b := Nat.not_le.mpr hbl
  obtain ⟨hC, hI, hSR, hP, hD⟩ := h0
  obtain ⟨pa, ra, σ, hE, hMR, hSK⟩ := hSR
  have hLA : LA (5 * (k : Int)) σ := fun j hj => hMR.ml hj (hI.1 j hj)
  have hB : B5 (σ.1 0 0) := by rw [← hMR.1.1]; exact hI.2.2
  refine lv_aload_n hx hb dL_law_439 rfl (lv_at hl 2 rfl) ?_
  refine lv_aload_n hx hb dL_law_440 rfl (lv_at hl 3 rfl) ?_
  refine lv_iload_n hx hb dL_law_441 rfl (lv_at hl 0 rfl) ?_
  refine lv_iconst (v := 1) hx hb dL_law_442 (by decide) ?_
  refine lv_iadd hx hb dL_law_443 ?_
  refine lv_topi (fun v1980 ev1980 => ?_)
  obtain rfl : v1980 = nI (7 * k + 1) := ev1980.trans (nI_add (7 * k) 1)
  refine va_sld hx hb hX hbl hbA hS (nI_in (by omega) (by omega)) dL_law_444 ?_
  refine W.eq (g2 := F0 m 445 ls [.int (xs (7 * k + 1)), .ref (v 0)]) (by rw [nI_clamp (by omega)]) ?_
  refine lv_aload_n hx hb dL_law_445 rfl (lv_at hl 3 rfl) ?_
  refine lv_iload_n hx hb dL_law_446 rfl (lv_at hl 0 rfl) ?_
  refine lv_iconst (v := 2) hx hb dL_law_447 (by decide) ?_
  refine lv_iadd hx hb dL_law_448 ?_
  refine lv_topi (fun v1981 ev1981 => ?_)
  obtain rfl : v1981 = nI (7 * k + 2) := ev1981.trans (nI_add (7 * k) 2)
  refine va_sld hx hb hX hbl hbA hS (nI_in (by omega) (by omega)) dL_law_449 ?_
  refine W.eq (g2 := F0 m 450 ls [.int (xs (7 * k + 2)), .int (xs (7 * k + 1)), .ref (v 0)]) (by rw [nI_clamp (by omega)]) ?_
  refine lv_if_eq (tgt := 457) hx hb dL_law_450 (by decide) (fun c1982 => ?_) (fun c1982 => ?_)
  · refine lv_iconst (v := 0) hx hb dL_law_457 (by decide) ?_
    obtain ⟨j1984, hj1984⟩ := pG_5 (cy := cy) (N := N) (T := T) (I := I) (Q := Q) (J := J) (hC.at 0 (by decide)) (hC.k 0 (by decide) rfl)
    have hFc := xfree (xD_l hD) hS hA
    refine va_calli (va_runV (As := [.int (xs (7 * k + 1)), .int 0]) (rest := []) ⟨hx, hb, hml, hown, hts⟩ (g_X5_finish l dC dI cy v L K N T I Q J H.size pa ra (kxo σ) σ (5 * (k : Int)) (xs (7 * k + 1)) 0 hE rfl hSK hLA (by omega) hB rfl rfl (by decide)) (cwV 2 hts gL_law_X5_finish rfl rfl rfl (by decide +kernel) ⟨Nat.le_of_ble_eq_true rfl, Nat.le_of_ble_eq_true rfl⟩) ⟨pw_blind, va_recv hKx (xP_l hP) (ci := 5) (q0 := j1984) rfl hj1984, fun U hU hW => ⟨rfl, pw_pre (xP_l hP) hKx hN (xD_l hD) hU hW⟩⟩ rfl rfl hl.1 rfl (lv_room (Nat.le_of_ble_eq_true rfl)) dL_law_458 ⟨show (79 + 12 * k) + 0 ≤ 600000 by omega, show (13150 + 346 * k) + 0 ≤ 7302250 by omega⟩) hS (fun q _ h => hFc q h) hFc (fun r1983 d9 t H locs ht hvm hr1983 hB9 hz1 hk1 hS => ?_)
    obtain ⟨I, Q, J⟩ := d9
    obtain ⟨hP1, hK1, hD1⟩ := hB9
    rw [ht] at hP1
    have hPn : va_P (dC, dI) vwCl (va_pl L (pF cy K N T I Q J) ++ va_pl Lm (wF cz Km Nm Tm Im Qm Jm)) H := va_P.app hP1 (xj_keep hP hD hk1)
    have hD : va_D (fun q : Nat => s.heap.size ≤ q) (va_pl L (pF cy K N T I Q J) ++ va_pl Lm (wF cz Km Nm Tm Im Qm Jm)) := xj_D hP hD hD1 hFc
    have hP := hPn
    obtain ⟨hE2, hr5⟩ := hr1983
    have hE2 : REP v pa ra L K N T I Q J (kxo (qFi σ (xs (7 * k + 1)) 0).1) (qFi σ (xs (7 * k + 1)) 0).1 := hE2
    have hr5 : r1983 = (qFi σ (xs (7 * k + 1)) 0).2 := hr5
    have hC := hE2.ct
    refine lv_pop hx hb dL_law_461 rfl ?_
    refine lv_aload_n hx hb dL_law_462 rfl (lv_at hl 1 rfl) ?_
    refine lv_aload_n hx hb dL_law_463 rfl (lv_at hl 3 rfl) ?_
    refine lv_iload_n hx hb dL_law_464 rfl (lv_at hl 0 rfl) ?_
    refine lv_iconst (v := 1) hx hb dL_law_465 (by decide) ?_
    refine lv_iadd hx hb dL_law_466 ?_
    refine lv_topi (fun v1985 ev1985 => ?_)
    obtain rfl : v1985 = nI (7 * k + 1) := ev1985.trans (nI_add (7 * k) 1)
    refine va_sld hx hb hX hbl hbA hS (nI_in (by omega) (by omega)) dL_law_467 ?_
    refine W.eq (g2 := F0 m 468 ls [.int (xs (7 * k + 1)), .ref (w 0)]) (by rw [nI_clamp (by omega)]) ?_
    refine lv_aload_n hx hb dL_law_468 rfl (lv_at hl 3 rfl) ?_
    refine lv_iload_n hx hb dL_law_469 rfl (lv_at hl 0 rfl) ?_
    refine lv_iconst (v := 2) hx hb dL_law_470 (by decide) ?_
    refine lv_iadd hx hb dL_law_471 ?_
    refine lv_topi (fun v1986 ev1986 => ?_)
    obtain rfl : v1986 = nI (7 * k + 2) := ev1986.trans (nI_add (7 * k) 2)
    refine va_sld hx hb hX hbl hbA hS (nI_in (by omega) (by omega)) dL_law_472 ?_
    refine W.eq (g2 := F0 m 473 ls [.int (xs (7 * k + 2)), .int (xs (7 * k + 1)), .ref (w 0)]) (by rw [nI_clamp (by omega)]) ?_
    refine lv_if_eq (tgt := 480) hx hb dL_law_473 (by decide) (fun c1987 => ?_) (fun c1987 => ?_)
    rotate_left
    · exact absurd c1982 c1987
    refine lv_iconst (v := 0) hx hb dL_law_480 (by decide) ?_
    obtain ⟨j1989, hj1989⟩ := wG_7 (cy := cz) (N := Nm) (T := Tm) (I := Im) (Q := Qm) (J := Jm) (hM.at 0 (by decide)) (hM.k 0 (by decide) rfl)
    have hPs := xswapP hP
    have hDs := xswapD hD
    have hFc := xfree (xD_l hDs) hS hA
    refine va_calli (va_runV (As := [.int (xs (7 * k + 1)), .int 0]) (rest := []) ⟨hx, hb, hml, hown, hts⟩ (f_X7_finish l dC dI cz w Lm Km Nm Tm Qm Im Jm H.size (5 * (k : Int)) (xs (7 * k + 1)) 0 σ hM hI (by omega) hMR) (cwV 2 hts gL_law_X7_finish rfl rfl rfl (by decide +kernel) ⟨Nat.le_of_ble_eq_true rfl, Nat.le_of_ble_eq_true rfl⟩) ⟨mw_blind, va_recv hKm (xP_r hP) (ci := 7) (q0 := j1989) rfl hj1989, fun U hU hW => ⟨rfl, mw_pre (xP_r hP) hKm (xD_r hD) hU hW⟩⟩ rfl rfl hl.1 rfl (lv_room (Nat.le_of_ble_eq_true rfl)) dL_law_481 ⟨show (79 + 12 * k + 0) + 0 ≤ 600000 by omega, show (13150 + 346 * k + 0) + 0 ≤ 7302250 by omega⟩) hS (fun q _ h => hFc q h) hFc (fun r1988 d9 t H locs ht hvm hr1988 hB9 hz1 hk1 hS => ?_)
    obtain ⟨Im, Jm⟩ := d9
    obtain ⟨hP1, hK1, hD1⟩ := hB9
    rw [ht] at hP1
    have hP : va_P (dC, dI) vwCl (va_pl L (pF cy K N T I Q J) ++ va_pl Lm (wF cz Km Nm Tm Im Qm Jm)) H := va_P.app (xj_keep hPs hDs hk1) hP1
    have hD : va_D (fun q : Nat => s.heap.size ≤ q) (va_pl L (pF cy K N T I Q J) ++ va_pl Lm (wF cz Km Nm Tm Im Qm Jm)) := xswapD (xj_D hPs hDs hD1 hFc)
    have hI : MI w (5 * (k : Int) + 5) Im Jm := hr1988.1
    obtain ⟨hMR2, hr7⟩ := hr1988.2
    have hMR2 : MR w Im Jm (qFi σ (xs (7 * k + 1)) 0).1 := hMR2
    have hr7 : r1988 = (qFi σ (xs (7 * k + 1)) 0).2 := hr7
    refine lv_pop hx hb dL_law_484 rfl ?_
    refine lv_goto (tgt := 1052) hx hb dL_law_485 (by decide) ?_
    refine W.widen (k := 79 + 12 * (k + 1)) (n := 13150 + 346 * (k + 1)) (by omega) (by omega) ?_
    exact hT L K T I Q J Im Jm H locs ls ⟨hC, hI.mono (by omega), ⟨pa, ra, _, hE2, hMR2, hSK.fi (xs (7 * k + 1)) 0⟩, hP, hD⟩ hS hl
  · refine lv_iconst (v := 1) hx hb dL_law_453 (by decide) ?_
    refine lv_goto (tgt := 458) hx hb dL_law_454 (by decide) ?_
    obtain ⟨j1991, hj1991⟩ := pG_5 (cy := cy) (N := N) (T := T) (I := I) (Q := Q) (J := J) (hC.at 0 (by decide)) (hC.k 0 (by decide) rfl)
    have hFc := xfree (xD_l hD) hS hA
    refine va_calli (va_runV (As := [.int (xs (7 * k + 1)), .int 1]) (rest := []) ⟨hx, hb, hml, hown, hts⟩ (g_X5_finish l dC dI cy v L K N T I Q J H.size pa ra (kxo σ) σ (5 * (k : Int)) (xs (7 * k + 1)) 1 hE rfl hSK hLA (by omega) hB rfl rfl (by decide)) (cwV 2 hts gL_law_X5_finish rfl rfl rfl (by decide +kernel) ⟨Nat.le_of_ble_eq_true rfl, Nat.le_of_ble_eq_true rfl⟩) ⟨pw_blind, va_recv hKx (xP_l hP) (ci := 5) (q0 := j1991) rfl hj1991, fun U hU hW => ⟨rfl, pw_pre (xP_l hP) hKx hN (xD_l hD) hU hW⟩⟩ rfl rfl hl.1 rfl (lv_room (Nat.le_of_ble_eq_true rfl)) dL_law_458 ⟨show (79 + 12 * k) + 0 ≤ 600000 by omega, show (13150 + 346 * k) + 0 ≤ 7302250 by omega⟩) hS (fun q _ h => hFc q h) hFc (fun r1990 d9 t H locs ht hvm hr1990 hB9 hz1 hk1 hS => ?_)
    obtain ⟨I, Q, J⟩ := d9
    obtain ⟨hP1, hK1, hD1⟩ := hB9
    rw [ht] at hP1
    have hPn : va_P (dC, dI) vwCl (va_pl L (pF cy K N T I Q J) ++ va_pl Lm (wF cz Km Nm Tm Im Qm Jm)) H := va_P.app hP1 (xj_keep hP hD hk1)
    have hD : va_D (fun q : Nat => s.heap.size ≤ q) (va_pl L (pF cy K N T I Q J) ++ va_pl Lm (wF cz Km Nm Tm Im Qm Jm)) := xj_D hP hD hD1 hFc
    have hP := hPn
    obtain ⟨hE2, hr5⟩ := hr1990
    have hE2 : REP v pa ra L K N T I Q J (kxo (qFi σ (xs (7 * k + 1)) 1).1) (qFi σ (xs (7 * k + 1)) 1).1 := hE2
    have hr5 : r1990 = (qFi σ (xs (7 * k + 1)) 1).2 := hr5
    have hC := hE2.ct
    refine lv_pop hx hb dL_law_461 rfl ?_
    refine lv_aload_n hx hb dL_law_462 rfl (lv_at hl 1 rfl) ?_
    refine lv_aload_n hx hb dL_law_463 rfl (lv_at hl 3 rfl) ?_
    refine lv_iload_n hx hb dL_law_464 rfl (lv_at hl 0 rfl) ?_
    refine lv_iconst (v := 1) hx hb dL_law_465 (by decide) ?_
    refine lv_iadd hx hb dL_law_466 ?_
    refine lv_topi (fun v1992 ev1992 => ?_)
    obtain rfl : v1992 = nI (7 * k + 1) := ev1992.trans (nI_add (7 * k) 1)
    refine va_sld hx hb hX hbl hbA hS (nI_in (by omega) (by omega)) dL_law_467 ?_
    refine W.eq (g2 := F0 m 468 ls [.int (xs (7 * k + 1)), .ref (w 0)]) (by rw [nI_clamp (by omega)]) ?_
    refine lv_aload_n hx hb dL_law_468 rfl (lv_at hl 3 rfl) ?_
    refine lv_iload_n hx hb dL_law_469 rfl (lv_at hl 0 rfl) ?_
    refine lv_iconst (v := 2) hx hb dL_law_470 (by decide) ?_
    refine lv_iadd hx hb dL_law_471 ?_
    refine lv_topi (fun v1993 ev1993 => ?_)
    obtain rfl : v1993 = nI (7 * k + 2) := ev1993.trans (nI_add (7 * k) 2)
    refine va_sld hx hb hX hbl hbA hS (nI_in (by omega) (by omega)) dL_law_472 ?_
    refine W.eq (g2 := F0 m 473 ls [.int (xs (7 * k + 2)), .int (xs (7 * k + 1)), .ref (w 0)]) (by rw [nI_clamp (by omega)]) ?_
    refine lv_if_eq (tgt := 480) hx hb dL_law_473 (by decide) (fun c1994 => ?_) (fun c1994 => ?_)
    · exact absurd c1994 c1982
    refine lv_iconst (v := 1) hx hb dL_law_476 (by decide) ?_
    refine lv_goto (tgt := 481) hx hb dL_law_477 (by decide) ?_
    obtain ⟨j1996, hj1996⟩ := wG_7 (cy := cz) (N := Nm) (T := Tm) (I := Im) (Q := Qm) (J := Jm) (hM.at 0 (by decide)) (hM.k 0 (by decide) rfl)
    have hPs := xswapP hP
    have hDs := xswapD hD
    have hFc := xfree (xD_l hDs) hS hA
    refine va_calli (va_runV (As := [.int (xs (7 * k + 1)), .int 1]) (rest := []) ⟨hx, hb, hml, hown, hts⟩ (f_X7_finish l dC dI cz w Lm Km Nm Tm Qm Im Jm H.size (5 * (k : Int)) (xs (7 * k + 1)) 1 σ hM hI (by omega) hMR) (cwV 2 hts gL_law_X7_finish rfl rfl rfl (by decide +kernel) ⟨Nat.le_of_ble_eq_true rfl, Nat.le_of_ble_eq_true rfl⟩) ⟨mw_blind, va_recv hKm (xP_r hP) (ci := 7) (q0 := j1996) rfl hj1996, fun U hU hW => ⟨rfl, mw_pre (xP_r hP) hKm (xD_r hD) hU hW⟩⟩ rfl rfl hl.1 rfl (lv_room (Nat.le_of_ble_eq_true rfl)) dL_law_481 ⟨show (79 + 12 * k + 0) + 0 ≤ 600000 by omega, show (13150 + 346 * k + 0) + 0 ≤ 7302250 by omega⟩) hS (fun q _ h => hFc q h) hFc (fun r1995 d9 t H locs ht hvm hr1995 hB9 hz1 hk1 hS => ?_)
    obtain ⟨Im, Jm⟩ := d9
    obtain ⟨hP1, hK1, hD1⟩ := hB9
    rw [ht] at hP1
    have hP : va_P (dC, dI) vwCl (va_pl L (pF cy K N T I Q J) ++ va_pl Lm (wF cz Km Nm Tm Im Qm Jm)) H := va_P.app (xj_keep hPs hDs hk1) hP1
    have hD : va_D (fun q : Nat => s.heap.size ≤ q) (va_pl L (pF cy K N T I Q J) ++ va_pl Lm (wF cz Km Nm Tm Im Qm Jm)) := xswapD (xj_D hPs hDs hD1 hFc)
    have hI : MI w (5 * (k : Int) + 5) Im Jm := hr1995.1
    obtain ⟨hMR2, hr7⟩ := hr1995.2
    have hMR2 : MR w Im Jm (qFi σ (xs (7 * k + 1)) 1).1 := hMR2
    have hr7 : r1995 = (qFi σ (xs (7 * k + 1)) 1).2 := hr7
    refine lv_pop hx hb dL_law_484 rfl ?_
    refine lv_goto (tgt := 1052) hx hb dL_law_485 (by decide) ?_
    refine W.widen (k := 79 + 12 * (k + 1)) (n := 13150 + 346 * (k + 1)) (by omega) (by omega) ?_
    exact hT L K T I Q J Im Jm H locs ls ⟨hC, hI.mono (by omega), ⟨pa, ra, _, hE2, hMR2, hSK.fi (xs (7 * k + 1)) 1⟩, hP, hD⟩ hS hl
set_option maxHeartbeats 4000000 in
set_option maxRecDepth 100000 in
theorem lw_c8 {p : Program} {e : Env} {s : State} {m : MethodId} {below : List Frame} {meth : Method} {c : Code} (l : Launch) {b Ls : Nat} {xs : Nat → Int32} (C0 : lw_At p s m meth c b Ls xs) {dC : Nat → ClassId} {dI : Nat → Nat → Nat} {cy : Nat → ClassId} {v : Nat → Nat} {N : Nat → Nat} {cz : Nat → ClassId} {w : Nat → Nat} {Lm : List Nat} {Km Nm : Nat → Nat} {Tm : Nat → Nat → Nat} {Qm : Nat → Nat → Option Nat} (hKx : va_K (dC, dI) vwCl (pTy cy) s) (hKm : va_K (dC, dI) vwCl (mTy cz) s) (hN : xN s) (hM : MS w Lm Km Nm Tm Qm) (hLs : Ls ≤ 448) (k : Nat) (hk : 7 * k + 7 ≤ Ls) (hT : ∀ (L : List Nat) (K : Nat → Nat) (T : Nat → Nat → Nat) (I : Nat → Nat → Int32) (Q : Nat → Nat → Option Nat) (J Im Jm : Nat → Nat → Int32) (H : Heap) (locs : List Loc) (ls : Array Slot), lwI dC dI cy v N cz w Lm Km Nm Tm Qm (fun q : Nat => s.heap.size ≤ q) H (k + 1) L K T I Q J Im Jm → va_S (fun q : Nat => s.heap.size ≤ q) s.heap H locs → lv_has ls 4 [(3, .int (nI (7 * k))), (2, .ref (w 0)), (1, .ref (v 0)), (0, .ref b)] → W p l e room_1 s m #[Value.ref b] below meth c H locs (79 + 12 * (k + 1)) (13150 + 346 * (k + 1)) (lw_Z below #[Value.ref b] s) (F0 m 1052 ls [])) (L : List Nat) (K : Nat → Nat) (T : Nat → Nat → Nat) (I : Nat → Nat → Int32) (Q : Nat → Nat → Option Nat) (J Im Jm : Nat → Nat → Int32) (H : Heap) (locs : List Loc) (ls : Array Slot) (h0 : lwI dC dI cy v N cz w Lm Km Nm Tm Qm (fun q : Nat => s.heap.size ≤ q) H k L K T I Q J Im Jm) (hS : va_S (fun q : Nat => s.heap.size ≤ q) s.heap H locs) (hl : lv_has ls 4 [(3, .int (nI (7 * k))), (2, .ref (w 0)), (1, .ref (v 0)), (0, .ref b)]) : W p l e room_1 s m #[Value.ref b] below meth c H locs (79 + 12 * k) (13150 + 346 * k) (lw_Z below #[Value.ref b] s) (F0 m 488 ls []) := by
  obtain ⟨hx, hb, hr, hml, hown, hts0, hX, hbl, hlocks, hgv⟩ := id C0
  have hown : s.vm.findClass RL = some m.cls := hown
  have hts : ∀ w ∈ wsL_law, w.before #[Value.ref b] s = true := fun w h => hts0 w (wsL_law_in w h)
  have hA : ∀ q : Nat, s.heap.size ≤ q → (fun q : Nat => s.heap.size ≤ q) q := fun _ h => h
  have hbA : ¬ (fun q : Nat => s.heap.size ≤ q) b := Nat.not_le.mpr hbl
  obtain ⟨hC, hI, hSR, hP, hD⟩ := h0
  obtain ⟨pa, ra, σ, hE, hMR, hSK⟩ := hSR
  have hLA : LA (5 * (k : Int)) σ := fun j hj => hMR.ml hj (hI.1 j hj)
  have hB : B5 (σ.1 0 0) := by rw [← hMR.1.1]; exact hI.2.2
  refine lv_aload_n hx hb dL_law_488 rfl (lv_at hl 2 rfl) ?_
  refine lv_aload_n hx hb dL_law_489 rfl (lv_at hl 3 rfl) ?_
  refine lv_iload_n hx hb dL_law_490 rfl (lv_at hl 0 rfl) ?_
  refine lv_iconst (v := 1) hx hb dL_law_491 (by decide) ?_
  refine lv_iadd hx hb dL_law_492 ?_
  refine lv_topi (fun v1997 ev1997 => ?_)
  obtain rfl : v1997 = nI (7 * k + 1) := ev1997.trans (nI_add (7 * k) 1)
  refine va_sld hx hb hX hbl hbA hS (nI_in (by omega) (by omega)) dL_law_493 ?_
  refine W.eq (g2 := F0 m 494 ls [.int (xs (7 * k + 1)), .ref (v 0)]) (by rw [nI_clamp (by omega)]) ?_
  obtain ⟨j1999, hj1999⟩ := pG_5 (cy := cy) (N := N) (T := T) (I := I) (Q := Q) (J := J) (hC.at 0 (by decide)) (hC.k 0 (by decide) rfl)
  have hFc := xfree (xD_l hD) hS hA
  refine va_calli (va_runV (As := [.int (xs (7 * k + 1))]) (rest := []) ⟨hx, hb, hml, hown, hts⟩ (g_X5_settle l dC dI cy v L K N T I Q J H.size pa ra (kxo σ) σ (5 * (k : Int)) (xs (7 * k + 1)) hE rfl hSK hLA (by omega) hB) (cwV 1 hts gL_law_X5_settle rfl rfl rfl (by decide +kernel) ⟨Nat.le_of_ble_eq_true rfl, Nat.le_of_ble_eq_true rfl⟩) ⟨pw_blind, va_recv hKx (xP_l hP) (ci := 5) (q0 := j1999) rfl hj1999, fun U hU hW => ⟨rfl, pw_pre (xP_l hP) hKx hN (xD_l hD) hU hW⟩⟩ rfl rfl hl.1 rfl (lv_room (Nat.le_of_ble_eq_true rfl)) dL_law_494 ⟨show (79 + 12 * k) + 4 ≤ 600000 by omega, show (13150 + 346 * k) + 32 ≤ 7302250 by omega⟩) hS (fun q _ h => hFc q h) hFc (fun r1998 d9 t H locs ht hvm hr1998 hB9 hz1 hk1 hS => ?_)
  obtain ⟨L, K, T, I, Q, J⟩ := d9
  obtain ⟨hP1, hK1, hD1⟩ := hB9
  rw [ht] at hP1
  have hPn : va_P (dC, dI) vwCl (va_pl L (pF cy K N T I Q J) ++ va_pl Lm (wF cz Km Nm Tm Im Qm Jm)) H := va_P.app hP1 (xj_keep hP hD hk1)
  have hD : va_D (fun q : Nat => s.heap.size ≤ q) (va_pl L (pF cy K N T I Q J) ++ va_pl Lm (wF cz Km Nm Tm Im Qm Jm)) := xj_D hP hD hD1 hFc
  have hP := hPn
  obtain ⟨hE2, hr5⟩ := hr1998
  have hE2 : REP v pa ra L K N T I Q J (kxo (qSt σ (xs (7 * k + 1))).1) (qSt σ (xs (7 * k + 1))).1 := hE2
  have hr5 : r1998 = (qSt σ (xs (7 * k + 1))).2 := hr5
  have hC := hE2.ct
  refine lv_pop hx hb dL_law_497 rfl ?_
  refine lv_aload_n hx hb dL_law_498 rfl (lv_at hl 1 rfl) ?_
  refine lv_aload_n hx hb dL_law_499 rfl (lv_at hl 3 rfl) ?_
  refine lv_iload_n hx hb dL_law_500 rfl (lv_at hl 0 rfl) ?_
  refine lv_iconst (v := 1) hx hb dL_law_501 (by decide) ?_
  refine lv_iadd hx hb dL_law_502 ?_
  refine lv_topi (fun v2000 ev2000 => ?_)
  obtain rfl : v2000 = nI (7 * k + 1) := ev2000.trans (nI_add (7 * k) 1)
  refine va_sld hx hb hX hbl hbA hS (nI_in (by omega) (by omega)) dL_law_503 ?_
  refine W.eq (g2 := F0 m 504 ls [.int (xs (7 * k + 1)), .ref (w 0)]) (by rw [nI_clamp (by omega)]) ?_
  obtain ⟨j2002, hj2002⟩ := wG_7 (cy := cz) (N := Nm) (T := Tm) (I := Im) (Q := Qm) (J := Jm) (hM.at 0 (by decide)) (hM.k 0 (by decide) rfl)
  have hPs := xswapP hP
  have hDs := xswapD hD
  have hFc := xfree (xD_l hDs) hS hA
  refine va_calli (va_runV (As := [.int (xs (7 * k + 1))]) (rest := []) ⟨hx, hb, hml, hown, hts⟩ (f_X7_settle l dC dI cz w Lm Km Nm Tm Qm Im Jm H.size (5 * (k : Int)) (xs (7 * k + 1)) σ hM hI (by omega) hMR) (cwV 1 hts gL_law_X7_settle rfl rfl rfl (by decide +kernel) ⟨Nat.le_of_ble_eq_true rfl, Nat.le_of_ble_eq_true rfl⟩) ⟨mw_blind, va_recv hKm (xP_r hP) (ci := 7) (q0 := j2002) rfl hj2002, fun U hU hW => ⟨rfl, mw_pre (xP_r hP) hKm (xD_r hD) hU hW⟩⟩ rfl rfl hl.1 rfl (lv_room (Nat.le_of_ble_eq_true rfl)) dL_law_504 ⟨show (79 + 12 * k + 4) + 0 ≤ 600000 by omega, show (13150 + 346 * k + 32) + 0 ≤ 7302250 by omega⟩) hS (fun q _ h => hFc q h) hFc (fun r2001 d9 t H locs ht hvm hr2001 hB9 hz1 hk1 hS => ?_)
  obtain ⟨Im, Jm⟩ := d9
  obtain ⟨hP1, hK1, hD1⟩ := hB9
  rw [ht] at hP1
  have hP : va_P (dC, dI) vwCl (va_pl L (pF cy K N T I Q J) ++ va_pl Lm (wF cz Km Nm Tm Im Qm Jm)) H := va_P.app (xj_keep hPs hDs hk1) hP1
  have hD : va_D (fun q : Nat => s.heap.size ≤ q) (va_pl L (pF cy K N T I Q J) ++ va_pl Lm (wF cz Km Nm Tm Im Qm Jm)) := xswapD (xj_D hPs hDs hD1 hFc)
  have hI : MI w (5 * (k : Int) + 5) Im Jm := hr2001.1
  obtain ⟨hMR2, hr7⟩ := hr2001.2
  have hMR2 : MR w Im Jm (qSt σ (xs (7 * k + 1))).1 := hMR2
  have hr7 : r2001 = (qSt σ (xs (7 * k + 1))).2 := hr7
  refine lv_pop hx hb dL_law_507 rfl ?_
  refine lv_goto (tgt := 1052) hx hb dL_law_508 (by decide) ?_
  refine W.widen (k := 79 + 12 * (k + 1)) (n := 13150 + 346 * (k + 1)) (by omega) (by omega) ?_
  exact hT L K T I Q J Im Jm H locs ls ⟨hC, hI.mono (by omega), ⟨pa, ra, _, hE2, hMR2, hSK.st hLA (by omega) (xs (7 * k + 1))⟩, hP, hD⟩ hS hl
set_option maxHeartbeats 4000000 in
set_option maxRecDepth 100000 in
theorem lw_c9 {p : Program} {e : Env} {s : State} {m : MethodId} {below : List Frame} {meth : Method} {c : Code} (l : Launch) {b Ls : Nat} {xs : Nat → Int32} (C0 : lw_At p s m meth c b Ls xs) {dC : Nat → ClassId} {dI : Nat → Nat → Nat} {cy : Nat → ClassId} {v : Nat → Nat} {N : Nat → Nat} {cz : Nat → ClassId} {w : Nat → Nat} {Lm : List Nat} {Km Nm : Nat → Nat} {Tm : Nat → Nat → Nat} {Qm : Nat → Nat → Option Nat} (hKx : va_K (dC, dI) vwCl (pTy cy) s) (hKm : va_K (dC, dI) vwCl (mTy cz) s) (hN : xN s) (hM : MS w Lm Km Nm Tm Qm) (hLs : Ls ≤ 448) (k : Nat) (hk : 7 * k + 7 ≤ Ls) (hT : ∀ (L : List Nat) (K : Nat → Nat) (T : Nat → Nat → Nat) (I : Nat → Nat → Int32) (Q : Nat → Nat → Option Nat) (J Im Jm : Nat → Nat → Int32) (H : Heap) (locs : List Loc) (ls : Array Slot), lwI dC dI cy v N cz w Lm Km Nm Tm Qm (fun q : Nat => s.heap.size ≤ q) H (k + 1) L K T I Q J Im Jm → va_S (fun q : Nat => s.heap.size ≤ q) s.heap H locs → lv_has ls 4 [(3, .int (nI (7 * k))), (2, .ref (w 0)), (1, .ref (v 0)), (0, .ref b)] → W p l e room_1 s m #[Value.ref b] below meth c H locs (79 + 12 * (k + 1)) (13150 + 346 * (k + 1)) (lw_Z below #[Value.ref b] s) (F0 m 1052 ls [])) (L : List Nat) (K : Nat → Nat) (T : Nat → Nat → Nat) (I : Nat → Nat → Int32) (Q : Nat → Nat → Option Nat) (J Im Jm : Nat → Nat → Int32) (H : Heap) (locs : List Loc) (ls : Array Slot) (h0 : lwI dC dI cy v N cz w Lm Km Nm Tm Qm (fun q : Nat => s.heap.size ≤ q) H k L K T I Q J Im Jm) (hS : va_S (fun q : Nat => s.heap.size ≤ q) s.heap H locs) (hl : lv_has ls 4 [(3, .int (nI (7 * k))), (2, .ref (w 0)), (1, .ref (v 0)), (0, .ref b)]) : W p l e room_1 s m #[Value.ref b] below meth c H locs (79 + 12 * k) (13150 + 346 * k) (lw_Z below #[Value.ref b] s) (F0 m 511 ls []) := by
  obtain ⟨hx, hb, hr, hml, hown, hts0, hX, hbl, hlocks, hgv⟩ := id C0
  have hown : s.vm.findClass RL = some m.cls := hown
  have hts : ∀ w ∈ wsL_law, w.before #[Value.ref b] s = true := fun w h => hts0 w (wsL_law_in w h)
  have hA : ∀ q : Nat, s.heap.size ≤ q → (fun q : Nat => s.heap.size ≤ q) q := fun _ h => h
  have hbA : ¬ (fun q : Nat => s.heap.size ≤ q) b := Nat.not_le.mpr hbl
  obtain ⟨hC, hI, hSR, hP, hD⟩ := h0
  obtain ⟨pa, ra, σ, hE, hMR, hSK⟩ := hSR
  have hLA : LA (5 * (k : Int)) σ := fun j hj => hMR.ml hj (hI.1 j hj)
  have hB : B5 (σ.1 0 0) := by rw [← hMR.1.1]; exact hI.2.2
  refine lv_aload_n hx hb dL_law_511 rfl (lv_at hl 2 rfl) ?_
  refine lv_aload_n hx hb dL_law_512 rfl (lv_at hl 3 rfl) ?_
  refine lv_iload_n hx hb dL_law_513 rfl (lv_at hl 0 rfl) ?_
  refine lv_iconst (v := 1) hx hb dL_law_514 (by decide) ?_
  refine lv_iadd hx hb dL_law_515 ?_
  refine lv_topi (fun v2003 ev2003 => ?_)
  obtain rfl : v2003 = nI (7 * k + 1) := ev2003.trans (nI_add (7 * k) 1)
  refine va_sld hx hb hX hbl hbA hS (nI_in (by omega) (by omega)) dL_law_516 ?_
  refine W.eq (g2 := F0 m 517 ls [.int (xs (7 * k + 1)), .ref (v 0)]) (by rw [nI_clamp (by omega)]) ?_
  refine lv_aload_n hx hb dL_law_517 rfl (lv_at hl 3 rfl) ?_
  refine lv_iload_n hx hb dL_law_518 rfl (lv_at hl 0 rfl) ?_
  refine lv_iconst (v := 2) hx hb dL_law_519 (by decide) ?_
  refine lv_iadd hx hb dL_law_520 ?_
  refine lv_topi (fun v2004 ev2004 => ?_)
  obtain rfl : v2004 = nI (7 * k + 2) := ev2004.trans (nI_add (7 * k) 2)
  refine va_sld hx hb hX hbl hbA hS (nI_in (by omega) (by omega)) dL_law_521 ?_
  refine W.eq (g2 := F0 m 522 ls [.int (xs (7 * k + 2)), .int (xs (7 * k + 1)), .ref (v 0)]) (by rw [nI_clamp (by omega)]) ?_
  refine lv_aload_n hx hb dL_law_522 rfl (lv_at hl 3 rfl) ?_
  refine lv_iload_n hx hb dL_law_523 rfl (lv_at hl 0 rfl) ?_
  refine lv_iconst (v := 3) hx hb dL_law_524 (by decide) ?_
  refine lv_iadd hx hb dL_law_525 ?_
  refine lv_topi (fun v2005 ev2005 => ?_)
  obtain rfl : v2005 = nI (7 * k + 3) := ev2005.trans (nI_add (7 * k) 3)
  refine va_sld hx hb hX hbl hbA hS (nI_in (by omega) (by omega)) dL_law_526 ?_
  refine W.eq (g2 := F0 m 527 ls [.int (xs (7 * k + 3)), .int (xs (7 * k + 2)), .int (xs (7 * k + 1)), .ref (v 0)]) (by rw [nI_clamp (by omega)]) ?_
  refine lv_if_eq (tgt := 534) hx hb dL_law_527 (by decide) (fun c2006 => ?_) (fun c2006 => ?_)
  · refine lv_iconst (v := 0) hx hb dL_law_534 (by decide) ?_
    obtain ⟨j2008, hj2008⟩ := pG_5 (cy := cy) (N := N) (T := T) (I := I) (Q := Q) (J := J) (hC.at 0 (by decide)) (hC.k 0 (by decide) rfl)
    have hFc := xfree (xD_l hD) hS hA
    refine va_calli (va_runV (As := [.int (xs (7 * k + 1)), .int (xs (7 * k + 2)), .int 0]) (rest := []) ⟨hx, hb, hml, hown, hts⟩ (g_X5_consume l dC dI cy v L K N T I Q J H.size pa ra (kxo σ) σ (5 * (k : Int)) (xs (7 * k + 1)) (xs (7 * k + 2)) 0 hE rfl hSK hLA (by omega) hB) (cwV 3 hts gL_law_X5_consume rfl rfl rfl (by decide +kernel) ⟨Nat.le_of_ble_eq_true rfl, Nat.le_of_ble_eq_true rfl⟩) ⟨pw_blind, va_recv hKx (xP_l hP) (ci := 5) (q0 := j2008) rfl hj2008, fun U hU hW => ⟨rfl, pw_pre (xP_l hP) hKx hN (xD_l hD) hU hW⟩⟩ rfl rfl hl.1 rfl (lv_room (Nat.le_of_ble_eq_true rfl)) dL_law_535 ⟨show (79 + 12 * k) + 0 ≤ 600000 by omega, show (13150 + 346 * k) + 0 ≤ 7302250 by omega⟩) hS (fun q _ h => hFc q h) hFc (fun r2007 d9 t H locs ht hvm hr2007 hB9 hz1 hk1 hS => ?_)
    obtain ⟨I, Q, J⟩ := d9
    obtain ⟨hP1, hK1, hD1⟩ := hB9
    rw [ht] at hP1
    have hPn : va_P (dC, dI) vwCl (va_pl L (pF cy K N T I Q J) ++ va_pl Lm (wF cz Km Nm Tm Im Qm Jm)) H := va_P.app hP1 (xj_keep hP hD hk1)
    have hD : va_D (fun q : Nat => s.heap.size ≤ q) (va_pl L (pF cy K N T I Q J) ++ va_pl Lm (wF cz Km Nm Tm Im Qm Jm)) := xj_D hP hD hD1 hFc
    have hP := hPn
    obtain ⟨hE2, hr5⟩ := hr2007
    have hE2 : REP v pa ra L K N T I Q J (kxo (qCo σ (xs (7 * k + 1)) (xs (7 * k + 2)) 0).1) (qCo σ (xs (7 * k + 1)) (xs (7 * k + 2)) 0).1 := hE2
    have hr5 : r2007 = (qCo σ (xs (7 * k + 1)) (xs (7 * k + 2)) 0).2 := hr5
    have hC := hE2.ct
    refine lv_pop hx hb dL_law_538 rfl ?_
    refine lv_aload_n hx hb dL_law_539 rfl (lv_at hl 1 rfl) ?_
    refine lv_aload_n hx hb dL_law_540 rfl (lv_at hl 3 rfl) ?_
    refine lv_iload_n hx hb dL_law_541 rfl (lv_at hl 0 rfl) ?_
    refine lv_iconst (v := 1) hx hb dL_law_542 (by decide) ?_
    refine lv_iadd hx hb dL_law_543 ?_
    refine lv_topi (fun v2009 ev2009 => ?_)
    obtain rfl : v2009 = nI (7 * k + 1) := ev2009.trans (nI_add (7 * k) 1)
    refine va_sld hx hb hX hbl hbA hS (nI_in (by omega) (by omega)) dL_law_544 ?_
    refine W.eq (g2 := F0 m 545 ls [.int (xs (7 * k + 1)), .ref (w 0)]) (by rw [nI_clamp (by omega)]) ?_
    refine lv_aload_n hx hb dL_law_545 rfl (lv_at hl 3 rfl) ?_
    refine lv_iload_n hx hb dL_law_546 rfl (lv_at hl 0 rfl) ?_
    refine lv_iconst (v := 2) hx hb dL_law_547 (by decide) ?_
    refine lv_iadd hx hb dL_law_548 ?_
    refine lv_topi (fun v2010 ev2010 => ?_)
    obtain rfl : v2010 = nI (7 * k + 2) := ev2010.trans (nI_add (7 * k) 2)
    refine va_sld hx hb hX hbl hbA hS (nI_in (by omega) (by omega)) dL_law_549 ?_
    refine W.eq (g2 := F0 m 550 ls [.int (xs (7 * k + 2)), .int (xs (7 * k + 1)), .ref (w 0)]) (by rw [nI_clamp (by omega)]) ?_
    refine lv_aload_n hx hb dL_law_550 rfl (lv_at hl 3 rfl) ?_
    refine lv_iload_n hx hb dL_law_551 rfl (lv_at hl 0 rfl) ?_
    refine lv_iconst (v := 3) hx hb dL_law_552 (by decide) ?_
    refine lv_iadd hx hb dL_law_553 ?_
    refine lv_topi (fun v2011 ev2011 => ?_)
    obtain rfl : v2011 = nI (7 * k + 3) := ev2011.trans (nI_add (7 * k) 3)
    refine va_sld hx hb hX hbl hbA hS (nI_in (by omega) (by omega)) dL_law_554 ?_
    refine W.eq (g2 := F0 m 555 ls [.int (xs (7 * k + 3)), .int (xs (7 * k + 2)), .int (xs (7 * k + 1)), .ref (w 0)]) (by rw [nI_clamp (by omega)]) ?_
    refine lv_if_eq (tgt := 562) hx hb dL_law_555 (by decide) (fun c2012 => ?_) (fun c2012 => ?_)
    rotate_left
    · exact absurd c2006 c2012
    refine lv_iconst (v := 0) hx hb dL_law_562 (by decide) ?_
    obtain ⟨j2014, hj2014⟩ := wG_7 (cy := cz) (N := Nm) (T := Tm) (I := Im) (Q := Qm) (J := Jm) (hM.at 0 (by decide)) (hM.k 0 (by decide) rfl)
    have hPs := xswapP hP
    have hDs := xswapD hD
    have hFc := xfree (xD_l hDs) hS hA
    refine va_calli (va_runV (As := [.int (xs (7 * k + 1)), .int (xs (7 * k + 2)), .int 0]) (rest := []) ⟨hx, hb, hml, hown, hts⟩ (f_X7_consume l dC dI cz w Lm Km Nm Tm Qm Im Jm H.size (5 * (k : Int)) (xs (7 * k + 1)) (xs (7 * k + 2)) 0 σ hM hI (by omega) hMR) (cwV 3 hts gL_law_X7_consume rfl rfl rfl (by decide +kernel) ⟨Nat.le_of_ble_eq_true rfl, Nat.le_of_ble_eq_true rfl⟩) ⟨mw_blind, va_recv hKm (xP_r hP) (ci := 7) (q0 := j2014) rfl hj2014, fun U hU hW => ⟨rfl, mw_pre (xP_r hP) hKm (xD_r hD) hU hW⟩⟩ rfl rfl hl.1 rfl (lv_room (Nat.le_of_ble_eq_true rfl)) dL_law_563 ⟨show (79 + 12 * k + 0) + 0 ≤ 600000 by omega, show (13150 + 346 * k + 0) + 0 ≤ 7302250 by omega⟩) hS (fun q _ h => hFc q h) hFc (fun r2013 d9 t H locs ht hvm hr2013 hB9 hz1 hk1 hS => ?_)
    obtain ⟨Im, Jm⟩ := d9
    obtain ⟨hP1, hK1, hD1⟩ := hB9
    rw [ht] at hP1
    have hP : va_P (dC, dI) vwCl (va_pl L (pF cy K N T I Q J) ++ va_pl Lm (wF cz Km Nm Tm Im Qm Jm)) H := va_P.app (xj_keep hPs hDs hk1) hP1
    have hD : va_D (fun q : Nat => s.heap.size ≤ q) (va_pl L (pF cy K N T I Q J) ++ va_pl Lm (wF cz Km Nm Tm Im Qm Jm)) := xswapD (xj_D hPs hDs hD1 hFc)
    have hI : MI w (5 * (k : Int) + 5) Im Jm := hr2013.1
    obtain ⟨hMR2, hr7⟩ := hr2013.2
    have hMR2 : MR w Im Jm (qCo σ (xs (7 * k + 1)) (xs (7 * k + 2)) 0).1 := hMR2
    have hr7 : r2013 = (qCo σ (xs (7 * k + 1)) (xs (7 * k + 2)) 0).2 := hr7
    refine lv_pop hx hb dL_law_566 rfl ?_
    refine lv_goto (tgt := 1052) hx hb dL_law_567 (by decide) ?_
    refine W.widen (k := 79 + 12 * (k + 1)) (n := 13150 + 346 * (k + 1)) (by omega) (by omega) ?_
    exact hT L K T I Q J Im Jm H locs ls ⟨hC, hI.mono (by omega), ⟨pa, ra, _, hE2, hMR2, hSK.co (xs (7 * k + 1)) (xs (7 * k + 2)) 0⟩, hP, hD⟩ hS hl
  · refine lv_iconst (v := 1) hx hb dL_law_530 (by decide) ?_
    refine lv_goto (tgt := 535) hx hb dL_law_531 (by decide) ?_
    obtain ⟨j2016, hj2016⟩ := pG_5 (cy := cy) (N := N) (T := T) (I := I) (Q := Q) (J := J) (hC.at 0 (by decide)) (hC.k 0 (by decide) rfl)
    have hFc := xfree (xD_l hD) hS hA
    refine va_calli (va_runV (As := [.int (xs (7 * k + 1)), .int (xs (7 * k + 2)), .int 1]) (rest := []) ⟨hx, hb, hml, hown, hts⟩ (g_X5_consume l dC dI cy v L K N T I Q J H.size pa ra (kxo σ) σ (5 * (k : Int)) (xs (7 * k + 1)) (xs (7 * k + 2)) 1 hE rfl hSK hLA (by omega) hB) (cwV 3 hts gL_law_X5_consume rfl rfl rfl (by decide +kernel) ⟨Nat.le_of_ble_eq_true rfl, Nat.le_of_ble_eq_true rfl⟩) ⟨pw_blind, va_recv hKx (xP_l hP) (ci := 5) (q0 := j2016) rfl hj2016, fun U hU hW => ⟨rfl, pw_pre (xP_l hP) hKx hN (xD_l hD) hU hW⟩⟩ rfl rfl hl.1 rfl (lv_room (Nat.le_of_ble_eq_true rfl)) dL_law_535 ⟨show (79 + 12 * k) + 0 ≤ 600000 by omega, show (13150 + 346 * k) + 0 ≤ 7302250 by omega⟩) hS (fun q _ h => hFc q h) hFc (fun r2015 d9 t H locs ht hvm hr2015 hB9 hz1 hk1 hS => ?_)
    obtain ⟨I, Q, J⟩ := d9
    obtain ⟨hP1, hK1, hD1⟩ := hB9
    rw [ht] at hP1
    have hPn : va_P (dC, dI) vwCl (va_pl L (pF cy K N T I Q J) ++ va_pl Lm (wF cz Km Nm Tm Im Qm Jm)) H := va_P.app hP1 (xj_keep hP hD hk1)
    have hD : va_D (fun q : Nat => s.heap.size ≤ q) (va_pl L (pF cy K N T I Q J) ++ va_pl Lm (wF cz Km Nm Tm Im Qm Jm)) := xj_D hP hD hD1 hFc
    have hP := hPn
    obtain ⟨hE2, hr5⟩ := hr2015
    have hE2 : REP v pa ra L K N T I Q J (kxo (qCo σ (xs (7 * k + 1)) (xs (7 * k + 2)) 1).1) (qCo σ (xs (7 * k + 1)) (xs (7 * k + 2)) 1).1 := hE2
    have hr5 : r2015 = (qCo σ (xs (7 * k + 1)) (xs (7 * k + 2)) 1).2 := hr5
    have hC := hE2.ct
    refine lv_pop hx hb dL_law_538 rfl ?_
    refine lv_aload_n hx hb dL_law_539 rfl (lv_at hl 1 rfl) ?_
    refine lv_aload_n hx hb dL_law_540 rfl (lv_at hl 3 rfl) ?_
    refine lv_iload_n hx hb dL_law_541 rfl (lv_at hl 0 rfl) ?_
    refine lv_iconst (v := 1) hx hb dL_law_542 (by decide) ?_
    refine lv_iadd hx hb dL_law_543 ?_
    refine lv_topi (fun v2017 ev2017 => ?_)
    obtain rfl : v2017 = nI (7 * k + 1) := ev2017.trans (nI_add (7 * k) 1)
    refine va_sld hx hb hX hbl hbA hS (nI_in (by omega) (by omega)) dL_law_544 ?_
    refine W.eq (g2 := F0 m 545 ls [.int (xs (7 * k + 1)), .ref (w 0)]) (by rw [nI_clamp (by omega)]) ?_
    refine lv_aload_n hx hb dL_law_545 rfl (lv_at hl 3 rfl) ?_
    refine lv_iload_n hx hb dL_law_546 rfl (lv_at hl 0 rfl) ?_
    refine lv_iconst (v := 2) hx hb dL_law_547 (by decide) ?_
    refine lv_iadd hx hb dL_law_548 ?_
    refine lv_topi (fun v2018 ev2018 => ?_)
    obtain rfl : v2018 = nI (7 * k + 2) := ev2018.trans (nI_add (7 * k) 2)
    refine va_sld hx hb hX hbl hbA hS (nI_in (by omega) (by omega)) dL_law_549 ?_
    refine W.eq (g2 := F0 m 550 ls [.int (xs (7 * k + 2)), .int (xs (7 * k + 1)), .ref (w 0)]) (by rw [nI_clamp (by omega)]) ?_
    refine lv_aload_n hx hb dL_law_550 rfl (lv_at hl 3 rfl) ?_
    refine lv_iload_n hx hb dL_law_551 rfl (lv_at hl 0 rfl) ?_
    refine lv_iconst (v := 3) hx hb dL_law_552 (by decide) ?_
    refine lv_iadd hx hb dL_law_553 ?_
    refine lv_topi (fun v2019 ev2019 => ?_)
    obtain rfl : v2019 = nI (7 * k + 3) := ev2019.trans (nI_add (7 * k) 3)
    refine va_sld hx hb hX hbl hbA hS (nI_in (by omega) (by omega)) dL_law_554 ?_
    refine W.eq (g2 := F0 m 555 ls [.int (xs (7 * k + 3)), .int (xs (7 * k + 2)), .int (xs (7 * k + 1)), .ref (w 0)]) (by rw [nI_clamp (by omega)]) ?_
    refine lv_if_eq (tgt := 562) hx hb dL_law_555 (by decide) (fun c2020 => ?_) (fun c2020 => ?_)
    · exact absurd c2020 c2006
    refine lv_iconst (v := 1) hx hb dL_law_558 (by decide) ?_
    refine lv_goto (tgt := 563) hx hb dL_law_559 (by decide) ?_
    obtain ⟨j2022, hj2022⟩ := wG_7 (cy := cz) (N := Nm) (T := Tm) (I := Im) (Q := Qm) (J := Jm) (hM.at 0 (by decide)) (hM.k 0 (by decide) rfl)
    have hPs := xswapP hP
    have hDs := xswapD hD
    have hFc := xfree (xD_l hDs) hS hA
    refine va_calli (va_runV (As := [.int (xs (7 * k + 1)), .int (xs (7 * k + 2)), .int 1]) (rest := []) ⟨hx, hb, hml, hown, hts⟩ (f_X7_consume l dC dI cz w Lm Km Nm Tm Qm Im Jm H.size (5 * (k : Int)) (xs (7 * k + 1)) (xs (7 * k + 2)) 1 σ hM hI (by omega) hMR) (cwV 3 hts gL_law_X7_consume rfl rfl rfl (by decide +kernel) ⟨Nat.le_of_ble_eq_true rfl, Nat.le_of_ble_eq_true rfl⟩) ⟨mw_blind, va_recv hKm (xP_r hP) (ci := 7) (q0 := j2022) rfl hj2022, fun U hU hW => ⟨rfl, mw_pre (xP_r hP) hKm (xD_r hD) hU hW⟩⟩ rfl rfl hl.1 rfl (lv_room (Nat.le_of_ble_eq_true rfl)) dL_law_563 ⟨show (79 + 12 * k + 0) + 0 ≤ 600000 by omega, show (13150 + 346 * k + 0) + 0 ≤ 7302250 by omega⟩) hS (fun q _ h => hFc q h) hFc (fun r2021 d9 t H locs ht hvm hr2021 hB9 hz1 hk1 hS => ?_)
    obtain ⟨Im, Jm⟩ := d9
    obtain ⟨hP1, hK1, hD1⟩ := hB9
    rw [ht] at hP1
    have hP : va_P (dC, dI) vwCl (va_pl L (pF cy K N T I Q J) ++ va_pl Lm (wF cz Km Nm Tm Im Qm Jm)) H := va_P.app (xj_keep hPs hDs hk1) hP1
    have hD : va_D (fun q : Nat => s.heap.size ≤ q) (va_pl L (pF cy K N T I Q J) ++ va_pl Lm (wF cz Km Nm Tm Im Qm Jm)) := xswapD (xj_D hPs hDs hD1 hFc)
    have hI : MI w (5 * (k : Int) + 5) Im Jm := hr2021.1
    obtain ⟨hMR2, hr7⟩ := hr2021.2
    have hMR2 : MR w Im Jm (qCo σ (xs (7 * k + 1)) (xs (7 * k + 2)) 1).1 := hMR2
    have hr7 : r2021 = (qCo σ (xs (7 * k + 1)) (xs (7 * k + 2)) 1).2 := hr7
    refine lv_pop hx hb dL_law_566 rfl ?_
    refine lv_goto (tgt := 1052) hx hb dL_law_567 (by decide) ?_
    refine W.widen (k := 79 + 12 * (k + 1)) (n := 13150 + 346 * (k + 1)) (by omega) (by omega) ?_
    exact hT L K T I Q J Im Jm H locs ls ⟨hC, hI.mono (by omega), ⟨pa, ra, _, hE2, hMR2, hSK.co (xs (7 * k + 1)) (xs (7 * k + 2)) 1⟩, hP, hD⟩ hS hl
set_option maxHeartbeats 4000000 in
set_option maxRecDepth 100000 in
theorem lw_c10 {p : Program} {e : Env} {s : State} {m : MethodId} {below : List Frame} {meth : Method} {c : Code} (l : Launch) {b Ls : Nat} {xs : Nat → Int32} (C0 : lw_At p s m meth c b Ls xs) {dC : Nat → ClassId} {dI : Nat → Nat → Nat} {cy : Nat → ClassId} {v : Nat → Nat} {N : Nat → Nat} {cz : Nat → ClassId} {w : Nat → Nat} {Lm : List Nat} {Km Nm : Nat → Nat} {Tm : Nat → Nat → Nat} {Qm : Nat → Nat → Option Nat} (hKx : va_K (dC, dI) vwCl (pTy cy) s) (hKm : va_K (dC, dI) vwCl (mTy cz) s) (hN : xN s) (hM : MS w Lm Km Nm Tm Qm) (hLs : Ls ≤ 448) (k : Nat) (hk : 7 * k + 7 ≤ Ls) (hT : ∀ (L : List Nat) (K : Nat → Nat) (T : Nat → Nat → Nat) (I : Nat → Nat → Int32) (Q : Nat → Nat → Option Nat) (J Im Jm : Nat → Nat → Int32) (H : Heap) (locs : List Loc) (ls : Array Slot), lwI dC dI cy v N cz w Lm Km Nm Tm Qm (fun q : Nat => s.heap.size ≤ q) H (k + 1) L K T I Q J Im Jm → va_S (fun q : Nat => s.heap.size ≤ q) s.heap H locs → lv_has ls 4 [(3, .int (nI (7 * k))), (2, .ref (w 0)), (1, .ref (v 0)), (0, .ref b)] → W p l e room_1 s m #[Value.ref b] below meth c H locs (79 + 12 * (k + 1)) (13150 + 346 * (k + 1)) (lw_Z below #[Value.ref b] s) (F0 m 1052 ls [])) (L : List Nat) (K : Nat → Nat) (T : Nat → Nat → Nat) (I : Nat → Nat → Int32) (Q : Nat → Nat → Option Nat) (J Im Jm : Nat → Nat → Int32) (H : Heap) (locs : List Loc) (ls : Array Slot) (h0 : lwI dC dI cy v N cz w Lm Km Nm Tm Qm (fun q : Nat => s.heap.size ≤ q) H k L K T I Q J Im Jm) (hS : va_S (fun q : Nat => s.heap.size ≤ q) s.heap H locs) (hl : lv_has ls 4 [(3, .int (nI (7 * k))), (2, .ref (w 0)), (1, .ref (v 0)), (0, .ref b)]) : W p l e room_1 s m #[Value.ref b] below meth c H locs (79 + 12 * k) (13150 + 346 * k) (lw_Z below #[Value.ref b] s) (F0 m 570 ls []) := by
  obtain ⟨hx, hb, hr, hml, hown, hts0, hX, hbl, hlocks, hgv⟩ := id C0
  have hown : s.vm.findClass RL = some m.cls := hown
  have hts : ∀ w ∈ wsL_law, w.before #[Value.ref b] s = true := fun w h => hts0 w (wsL_law_in w h)
  have hA : ∀ q : Nat, s.heap.size ≤ q → (fun q : Nat => s.heap.size ≤ q) q := fun _ h => h
  have hbA : ¬ (fun q : Nat => s.heap.size ≤ q) b := Nat.not_le.mpr hbl
  obtain ⟨hC, hI, hSR, hP, hD⟩ := h0
  obtain ⟨pa, ra, σ, hE, hMR, hSK⟩ := hSR
  have hLA : LA (5 * (k : Int)) σ := fun j hj => hMR.ml hj (hI.1 j hj)
  have hB : B5 (σ.1 0 0) := by rw [← hMR.1.1]; exact hI.2.2
  refine lv_aload_n hx hb dL_law_570 rfl (lv_at hl 2 rfl) ?_
  refine lv_aload_n hx hb dL_law_571 rfl (lv_at hl 3 rfl) ?_
  refine lv_iload_n hx hb dL_law_572 rfl (lv_at hl 0 rfl) ?_
  refine lv_iconst (v := 1) hx hb dL_law_573 (by decide) ?_
  refine lv_iadd hx hb dL_law_574 ?_
  refine lv_topi (fun v2023 ev2023 => ?_)
  obtain rfl : v2023 = nI (7 * k + 1) := ev2023.trans (nI_add (7 * k) 1)
  refine va_sld hx hb hX hbl hbA hS (nI_in (by omega) (by omega)) dL_law_575 ?_
  refine W.eq (g2 := F0 m 576 ls [.int (xs (7 * k + 1)), .ref (v 0)]) (by rw [nI_clamp (by omega)]) ?_
  obtain ⟨j2025, hj2025⟩ := pG_5 (cy := cy) (N := N) (T := T) (I := I) (Q := Q) (J := J) (hC.at 0 (by decide)) (hC.k 0 (by decide) rfl)
  refine vp_callSi (W.runV (As := [.int (xs (7 * k + 1))]) (rest := []) ⟨hx, hb, hml, hown, hts⟩ (c_X5_seen l dC dI cy v L K N T I Q J (xs (7 * k + 1)) hC) (cwV 1 hts gL_law_X5_seen rfl rfl rfl (by decide +kernel) ⟨Nat.le_of_ble_eq_true rfl, Nat.le_of_ble_eq_true rfl⟩) ⟨pb_blind, va_recv hKx (xP_l hP) (ci := 5) (q0 := j2025) rfl hj2025, fun U hU hW => ⟨rfl, pb_pre (xP_l hP) hKx hN hU hW⟩⟩ rfl rfl hl.1 rfl (lv_room (Nat.le_of_ble_eq_true rfl)) dL_law_576 ⟨show (79 + 12 * k) + 0 ≤ 600000 by omega, show (13150 + 346 * k) + 0 ≤ 7302250 by omega⟩) (fun r2024 hr2024 => ?_)
  refine lv_pop hx hb dL_law_579 rfl ?_
  refine lv_aload_n hx hb dL_law_580 rfl (lv_at hl 1 rfl) ?_
  refine lv_aload_n hx hb dL_law_581 rfl (lv_at hl 3 rfl) ?_
  refine lv_iload_n hx hb dL_law_582 rfl (lv_at hl 0 rfl) ?_
  refine lv_iconst (v := 1) hx hb dL_law_583 (by decide) ?_
  refine lv_iadd hx hb dL_law_584 ?_
  refine lv_topi (fun v2026 ev2026 => ?_)
  obtain rfl : v2026 = nI (7 * k + 1) := ev2026.trans (nI_add (7 * k) 1)
  refine va_sld hx hb hX hbl hbA hS (nI_in (by omega) (by omega)) dL_law_585 ?_
  refine W.eq (g2 := F0 m 586 ls [.int (xs (7 * k + 1)), .ref (w 0)]) (by rw [nI_clamp (by omega)]) ?_
  obtain ⟨j2028, hj2028⟩ := wG_7 (cy := cz) (N := Nm) (T := Tm) (I := Im) (Q := Qm) (J := Jm) (hM.at 0 (by decide)) (hM.k 0 (by decide) rfl)
  refine vp_callSi (W.runV (As := [.int (xs (7 * k + 1))]) (rest := []) ⟨hx, hb, hml, hown, hts⟩ (c_X7_seen l dC dI cz w Lm Km Nm Tm Qm Im Jm (xs (7 * k + 1)) hM) (cwV 1 hts gL_law_X7_seen rfl rfl rfl (by decide +kernel) ⟨Nat.le_of_ble_eq_true rfl, Nat.le_of_ble_eq_true rfl⟩) ⟨mb_blind, va_recv hKm (xP_r hP) (ci := 7) (q0 := j2028) rfl hj2028, fun U hU hW => ⟨rfl, mb_pre (xP_r hP) hKm hU hW⟩⟩ rfl rfl hl.1 rfl (lv_room (Nat.le_of_ble_eq_true rfl)) dL_law_586 ⟨show (79 + 12 * k) + 0 ≤ 600000 by omega, show (13150 + 346 * k) + 0 ≤ 7302250 by omega⟩) (fun r2027 hr2027 => ?_)
  refine lv_pop hx hb dL_law_589 rfl ?_
  refine lv_goto (tgt := 1052) hx hb dL_law_590 (by decide) ?_
  refine W.widen (k := 79 + 12 * (k + 1)) (n := 13150 + 346 * (k + 1)) (by omega) (by omega) ?_
  exact hT L K T I Q J Im Jm H locs ls ⟨hC, hI.mono (by omega), ⟨pa, ra, σ, hE, hMR, hSK⟩, hP, hD⟩ hS hl
set_option maxHeartbeats 4000000 in
set_option maxRecDepth 100000 in
theorem lw_c11 {p : Program} {e : Env} {s : State} {m : MethodId} {below : List Frame} {meth : Method} {c : Code} (l : Launch) {b Ls : Nat} {xs : Nat → Int32} (C0 : lw_At p s m meth c b Ls xs) {dC : Nat → ClassId} {dI : Nat → Nat → Nat} {cy : Nat → ClassId} {v : Nat → Nat} {N : Nat → Nat} {cz : Nat → ClassId} {w : Nat → Nat} {Lm : List Nat} {Km Nm : Nat → Nat} {Tm : Nat → Nat → Nat} {Qm : Nat → Nat → Option Nat} (hKx : va_K (dC, dI) vwCl (pTy cy) s) (hKm : va_K (dC, dI) vwCl (mTy cz) s) (hN : xN s) (hM : MS w Lm Km Nm Tm Qm) (hLs : Ls ≤ 448) (k : Nat) (hk : 7 * k + 7 ≤ Ls) (hT : ∀ (L : List Nat) (K : Nat → Nat) (T : Nat → Nat → Nat) (I : Nat → Nat → Int32) (Q : Nat → Nat → Option Nat) (J Im Jm : Nat → Nat → Int32) (H : Heap) (locs : List Loc) (ls : Array Slot), lwI dC dI cy v N cz w Lm Km Nm Tm Qm (fun q : Nat => s.heap.size ≤ q) H (k + 1) L K T I Q J Im Jm → va_S (fun q : Nat => s.heap.size ≤ q) s.heap H locs → lv_has ls 4 [(3, .int (nI (7 * k))), (2, .ref (w 0)), (1, .ref (v 0)), (0, .ref b)] → W p l e room_1 s m #[Value.ref b] below meth c H locs (79 + 12 * (k + 1)) (13150 + 346 * (k + 1)) (lw_Z below #[Value.ref b] s) (F0 m 1052 ls [])) (L : List Nat) (K : Nat → Nat) (T : Nat → Nat → Nat) (I : Nat → Nat → Int32) (Q : Nat → Nat → Option Nat) (J Im Jm : Nat → Nat → Int32) (H : Heap) (locs : List Loc) (ls : Array Slot) (h0 : lwI dC dI cy v N cz w Lm Km Nm Tm Qm (fun q : Nat => s.heap.size ≤ q) H k L K T I Q J Im Jm) (hS : va_S (fun q : Nat => s.heap.size ≤ q) s.heap H locs) (hl : lv_has ls 4 [(3, .int (nI (7 * k))), (2, .ref (w 0)), (1, .ref (v 0)), (0, .ref b)]) : W p l e room_1 s m #[Value.ref b] below meth c H locs (79 + 12 * k) (13150 + 346 * k) (lw_Z below #[Value.ref b] s) (F0 m 593 ls []) := by
  obtain ⟨hx, hb, hr, hml, hown, hts0, hX, hbl, hlocks, hgv⟩ := id C0
  have hown : s.vm.findClass RL = some m.cls := hown
  have hts : ∀ w ∈ wsL_law, w.before #[Value.ref b] s = true := fun w h => hts0 w (wsL_law_in w h)
  have hA : ∀ q : Nat, s.heap.size ≤ q → (fun q : Nat => s.heap.size ≤ q) q := fun _ h => h
  have hbA : ¬ (fun q : Nat => s.heap.size ≤ q) b := Nat.not_le.mpr hbl
  obtain ⟨hC, hI, hSR, hP, hD⟩ := h0
  obtain ⟨pa, ra, σ, hE, hMR, hSK⟩ := hSR
  have hLA : LA (5 * (k : Int)) σ := fun j hj => hMR.ml hj (hI.1 j hj)
  have hB : B5 (σ.1 0 0) := by rw [← hMR.1.1]; exact hI.2.2
  refine lv_aload_n hx hb dL_law_593 rfl (lv_at hl 2 rfl) ?_
  refine lv_aload_n hx hb dL_law_594 rfl (lv_at hl 3 rfl) ?_
  refine lv_iload_n hx hb dL_law_595 rfl (lv_at hl 0 rfl) ?_
  refine lv_iconst (v := 1) hx hb dL_law_596 (by decide) ?_
  refine lv_iadd hx hb dL_law_597 ?_
  refine lv_topi (fun v2029 ev2029 => ?_)
  obtain rfl : v2029 = nI (7 * k + 1) := ev2029.trans (nI_add (7 * k) 1)
  refine va_sld hx hb hX hbl hbA hS (nI_in (by omega) (by omega)) dL_law_598 ?_
  refine W.eq (g2 := F0 m 599 ls [.int (xs (7 * k + 1)), .ref (v 0)]) (by rw [nI_clamp (by omega)]) ?_
  refine lv_aload_n hx hb dL_law_599 rfl (lv_at hl 3 rfl) ?_
  refine lv_iload_n hx hb dL_law_600 rfl (lv_at hl 0 rfl) ?_
  refine lv_iconst (v := 2) hx hb dL_law_601 (by decide) ?_
  refine lv_iadd hx hb dL_law_602 ?_
  refine lv_topi (fun v2030 ev2030 => ?_)
  obtain rfl : v2030 = nI (7 * k + 2) := ev2030.trans (nI_add (7 * k) 2)
  refine va_sld hx hb hX hbl hbA hS (nI_in (by omega) (by omega)) dL_law_603 ?_
  refine W.eq (g2 := F0 m 604 ls [.int (xs (7 * k + 2)), .int (xs (7 * k + 1)), .ref (v 0)]) (by rw [nI_clamp (by omega)]) ?_
  obtain ⟨j2032, hj2032⟩ := pG_5 (cy := cy) (N := N) (T := T) (I := I) (Q := Q) (J := J) (hC.at 0 (by decide)) (hC.k 0 (by decide) rfl)
  have hFc := xfree (xD_l hD) hS hA
  refine va_calli (va_runV (As := [.int (xs (7 * k + 1)), .int (xs (7 * k + 2))]) (rest := []) ⟨hx, hb, hml, hown, hts⟩ (g_X5_member l dC dI cy v L K N T I Q J H.size pa ra (kxo σ) σ (5 * (k : Int)) (xs (7 * k + 1)) (xs (7 * k + 2)) hE rfl hSK hLA (by omega) hB) (cwV 2 hts gL_law_X5_member rfl rfl rfl (by decide +kernel) ⟨Nat.le_of_ble_eq_true rfl, Nat.le_of_ble_eq_true rfl⟩) ⟨pw_blind, va_recv hKx (xP_l hP) (ci := 5) (q0 := j2032) rfl hj2032, fun U hU hW => ⟨rfl, pw_pre (xP_l hP) hKx hN (xD_l hD) hU hW⟩⟩ rfl rfl hl.1 rfl (lv_room (Nat.le_of_ble_eq_true rfl)) dL_law_604 ⟨show (79 + 12 * k) + 0 ≤ 600000 by omega, show (13150 + 346 * k) + 0 ≤ 7302250 by omega⟩) hS (fun q _ h => hFc q h) hFc (fun r2031 d9 t H locs ht hvm hr2031 hB9 hz1 hk1 hS => ?_)
  obtain ⟨I, Q, J⟩ := d9
  obtain ⟨hP1, hK1, hD1⟩ := hB9
  rw [ht] at hP1
  have hPn : va_P (dC, dI) vwCl (va_pl L (pF cy K N T I Q J) ++ va_pl Lm (wF cz Km Nm Tm Im Qm Jm)) H := va_P.app hP1 (xj_keep hP hD hk1)
  have hD : va_D (fun q : Nat => s.heap.size ≤ q) (va_pl L (pF cy K N T I Q J) ++ va_pl Lm (wF cz Km Nm Tm Im Qm Jm)) := xj_D hP hD hD1 hFc
  have hP := hPn
  obtain ⟨hE2, hr5⟩ := hr2031
  have hE2 : REP v pa ra L K N T I Q J (kxo (qMb σ (xs (7 * k + 1)) (xs (7 * k + 2))).1) (qMb σ (xs (7 * k + 1)) (xs (7 * k + 2))).1 := hE2
  have hr5 : r2031 = (qMb σ (xs (7 * k + 1)) (xs (7 * k + 2))).2 := hr5
  have hC := hE2.ct
  refine lv_pop hx hb dL_law_607 rfl ?_
  refine lv_aload_n hx hb dL_law_608 rfl (lv_at hl 1 rfl) ?_
  refine lv_aload_n hx hb dL_law_609 rfl (lv_at hl 3 rfl) ?_
  refine lv_iload_n hx hb dL_law_610 rfl (lv_at hl 0 rfl) ?_
  refine lv_iconst (v := 1) hx hb dL_law_611 (by decide) ?_
  refine lv_iadd hx hb dL_law_612 ?_
  refine lv_topi (fun v2033 ev2033 => ?_)
  obtain rfl : v2033 = nI (7 * k + 1) := ev2033.trans (nI_add (7 * k) 1)
  refine va_sld hx hb hX hbl hbA hS (nI_in (by omega) (by omega)) dL_law_613 ?_
  refine W.eq (g2 := F0 m 614 ls [.int (xs (7 * k + 1)), .ref (w 0)]) (by rw [nI_clamp (by omega)]) ?_
  refine lv_aload_n hx hb dL_law_614 rfl (lv_at hl 3 rfl) ?_
  refine lv_iload_n hx hb dL_law_615 rfl (lv_at hl 0 rfl) ?_
  refine lv_iconst (v := 2) hx hb dL_law_616 (by decide) ?_
  refine lv_iadd hx hb dL_law_617 ?_
  refine lv_topi (fun v2034 ev2034 => ?_)
  obtain rfl : v2034 = nI (7 * k + 2) := ev2034.trans (nI_add (7 * k) 2)
  refine va_sld hx hb hX hbl hbA hS (nI_in (by omega) (by omega)) dL_law_618 ?_
  refine W.eq (g2 := F0 m 619 ls [.int (xs (7 * k + 2)), .int (xs (7 * k + 1)), .ref (w 0)]) (by rw [nI_clamp (by omega)]) ?_
  obtain ⟨j2036, hj2036⟩ := wG_7 (cy := cz) (N := Nm) (T := Tm) (I := Im) (Q := Qm) (J := Jm) (hM.at 0 (by decide)) (hM.k 0 (by decide) rfl)
  have hPs := xswapP hP
  have hDs := xswapD hD
  have hFc := xfree (xD_l hDs) hS hA
  refine va_calli (va_runV (As := [.int (xs (7 * k + 1)), .int (xs (7 * k + 2))]) (rest := []) ⟨hx, hb, hml, hown, hts⟩ (f_X7_member l dC dI cz w Lm Km Nm Tm Qm Im Jm H.size (5 * (k : Int)) (xs (7 * k + 1)) (xs (7 * k + 2)) σ hM hI (by omega) hMR) (cwV 2 hts gL_law_X7_member rfl rfl rfl (by decide +kernel) ⟨Nat.le_of_ble_eq_true rfl, Nat.le_of_ble_eq_true rfl⟩) ⟨mw_blind, va_recv hKm (xP_r hP) (ci := 7) (q0 := j2036) rfl hj2036, fun U hU hW => ⟨rfl, mw_pre (xP_r hP) hKm (xD_r hD) hU hW⟩⟩ rfl rfl hl.1 rfl (lv_room (Nat.le_of_ble_eq_true rfl)) dL_law_619 ⟨show (79 + 12 * k + 0) + 0 ≤ 600000 by omega, show (13150 + 346 * k + 0) + 0 ≤ 7302250 by omega⟩) hS (fun q _ h => hFc q h) hFc (fun r2035 d9 t H locs ht hvm hr2035 hB9 hz1 hk1 hS => ?_)
  obtain ⟨Im, Jm⟩ := d9
  obtain ⟨hP1, hK1, hD1⟩ := hB9
  rw [ht] at hP1
  have hP : va_P (dC, dI) vwCl (va_pl L (pF cy K N T I Q J) ++ va_pl Lm (wF cz Km Nm Tm Im Qm Jm)) H := va_P.app (xj_keep hPs hDs hk1) hP1
  have hD : va_D (fun q : Nat => s.heap.size ≤ q) (va_pl L (pF cy K N T I Q J) ++ va_pl Lm (wF cz Km Nm Tm Im Qm Jm)) := xswapD (xj_D hPs hDs hD1 hFc)
  have hI : MI w (5 * (k : Int) + 5) Im Jm := hr2035.1
  obtain ⟨hMR2, hr7⟩ := hr2035.2
  have hMR2 : MR w Im Jm (qMb σ (xs (7 * k + 1)) (xs (7 * k + 2))).1 := hMR2
  have hr7 : r2035 = (qMb σ (xs (7 * k + 1)) (xs (7 * k + 2))).2 := hr7
  refine lv_pop hx hb dL_law_622 rfl ?_
  refine lv_goto (tgt := 1052) hx hb dL_law_623 (by decide) ?_
  refine W.widen (k := 79 + 12 * (k + 1)) (n := 13150 + 346 * (k + 1)) (by omega) (by omega) ?_
  exact hT L K T I Q J Im Jm H locs ls ⟨hC, hI.mono (by omega), ⟨pa, ra, _, hE2, hMR2, hSK.mb (xs (7 * k + 1)) (xs (7 * k + 2))⟩, hP, hD⟩ hS hl
