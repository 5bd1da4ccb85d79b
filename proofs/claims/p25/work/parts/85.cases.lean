set_option maxHeartbeats 4000000 in
set_option maxRecDepth 100000 in
theorem lw_c18 {p : Program} {e : Env} {s : State} {m : MethodId} {below : List Frame} {meth : Method} {c : Code} (l : Launch) {b Ls : Nat} {xs : Nat → Int32} (C0 : lw_At p s m meth c b Ls xs) {dC : Nat → ClassId} {dI : Nat → Nat → Nat} {cy : Nat → ClassId} {v : Nat → Nat} {N : Nat → Nat} {cz : Nat → ClassId} {w : Nat → Nat} {Lm : List Nat} {Km Nm : Nat → Nat} {Tm : Nat → Nat → Nat} {Qm : Nat → Nat → Option Nat} (hKx : va_K (dC, dI) vwCl (pTy cy) s) (hKm : va_K (dC, dI) vwCl (mTy cz) s) (hN : xN s) (hM : MS w Lm Km Nm Tm Qm) (hLs : Ls ≤ 448) (k : Nat) (hk : 7 * k + 7 ≤ Ls) (hT : ∀ (L : List Nat) (K : Nat → Nat) (T : Nat → Nat → Nat) (I : Nat → Nat → Int32) (Q : Nat → Nat → Option Nat) (J Im Jm : Nat → Nat → Int32) (H : Heap) (locs : List Loc) (ls : Array Slot), lwI dC dI cy v N cz w Lm Km Nm Tm Qm (fun q : Nat => s.heap.size ≤ q) H (k + 1) L K T I Q J Im Jm → va_S (fun q : Nat => s.heap.size ≤ q) s.heap H locs → lv_has ls 4 [(3, .int (nI (7 * k))), (2, .ref (w 0)), (1, .ref (v 0)), (0, .ref b)] → W p l e room_1 s m #[Value.ref b] below meth c H locs (79 + 12 * (k + 1)) (13150 + 346 * (k + 1)) (lw_Z below #[Value.ref b] s) (F0 m 1052 ls [])) (L : List Nat) (K : Nat → Nat) (T : Nat → Nat → Nat) (I : Nat → Nat → Int32) (Q : Nat → Nat → Option Nat) (J Im Jm : Nat → Nat → Int32) (H : Heap) (locs : List Loc) (ls : Array Slot) (h0 : lwI dC dI cy v N cz w Lm Km Nm Tm Qm (fun q : Nat => s.heap.size ≤ q) H k L K T I Q J Im Jm) (hS : va_S (fun q : Nat => s.heap.size ≤ q) s.heap H locs) (hl : lv_has ls 4 [(3, .int (nI (7 * k))), (2, .ref (w 0)), (1, .ref (v 0)), (0, .ref b)]) : W p l e room_1 s m #[Value.ref b] below meth c H locs (79 + 12 * k) (13150 + 346 * k) (lw_Z below #[Value.ref b] s) (F0 m 844 ls []) := by
  obtain ⟨hx, hb, hr, hml, hown, hts0, hX, hbl, hlocks, hgv⟩ := id C0
  have hown : s.vm.findClass RL = some m.cls := hown
  have hts : ∀ w ∈ wsL_law, w.before #[Value.ref b] s = true := fun w h => hts0 w (wsL_law_in w h)
  have hA : ∀ q : Nat, s.heap.size ≤ q → (fun q : Nat => s.heap.size ≤ q) q := fun _ h => h
  have hbA : ¬ (fun q : Nat => s.heap.size ≤ q) b := Nat.not_le.mpr hbl
  obtain ⟨hC, hI, hSR, hP, hD⟩ := h0
  obtain ⟨pa, ra, σ, hE, hMR, hSK⟩ := hSR
  have hLA : LA (5 * (k : Int)) σ := fun j hj => hMR.ml hj (hI.1 j hj)
  have hB : B5 (σ.1 0 0) := by rw [← hMR.1.1]; exact hI.2.2
  refine lv_aload_n hx hb dL_law_844 rfl (lv_at hl 2 rfl) ?_
  refine lv_aload_n hx hb dL_law_845 rfl (lv_at hl 3 rfl) ?_
  refine lv_iload_n hx hb dL_law_846 rfl (lv_at hl 0 rfl) ?_
  refine lv_iconst (v := 1) hx hb dL_law_847 (by decide) ?_
  refine lv_iadd hx hb dL_law_848 ?_
  refine lv_topi (fun v2089 ev2089 => ?_)
  obtain rfl : v2089 = nI (7 * k + 1) := ev2089.trans (nI_add (7 * k) 1)
  refine va_sld hx hb hX hbl hbA hS (nI_in (by omega) (by omega)) dL_law_849 ?_
  refine W.eq (g2 := F0 m 850 ls [.int (xs (7 * k + 1)), .ref (v 0)]) (by rw [nI_clamp (by omega)]) ?_
  obtain ⟨j2091, hj2091⟩ := pG_5 (cy := cy) (N := N) (T := T) (I := I) (Q := Q) (J := J) (hC.at 0 (by decide)) (hC.k 0 (by decide) rfl)
  have hFc := xfree (xD_l hD) hS hA
  refine va_calli (va_runV (As := [.int (xs (7 * k + 1))]) (rest := []) ⟨hx, hb, hml, hown, hts⟩ (g_X5_restart l dC dI cy v L K N T I Q J H.size pa ra (kxo σ) σ (5 * (k : Int)) (xs (7 * k + 1)) hE rfl hSK hLA (by omega) hB) (cwV 1 hts gL_law_X5_restart rfl rfl rfl (by decide +kernel) ⟨Nat.le_of_ble_eq_true rfl, Nat.le_of_ble_eq_true rfl⟩) ⟨pw_blind, va_recv hKx (xP_l hP) (ci := 5) (q0 := j2091) rfl hj2091, fun U hU hW => ⟨rfl, pw_pre (xP_l hP) hKx hN (xD_l hD) hU hW⟩⟩ rfl rfl hl.1 rfl (lv_room (Nat.le_of_ble_eq_true rfl)) dL_law_850 ⟨show (79 + 12 * k) + 0 ≤ 600000 by omega, show (13150 + 346 * k) + 0 ≤ 7302250 by omega⟩) hS (fun q _ h => hFc q h) hFc (fun r2090 d9 t H locs ht hvm hr2090 hB9 hz1 hk1 hS => ?_)
  obtain ⟨I, Q, J⟩ := d9
  obtain ⟨hP1, hK1, hD1⟩ := hB9
  rw [ht] at hP1
  have hPn : va_P (dC, dI) vwCl (va_pl L (pF cy K N T I Q J) ++ va_pl Lm (wF cz Km Nm Tm Im Qm Jm)) H := va_P.app hP1 (xj_keep hP hD hk1)
  have hD : va_D (fun q : Nat => s.heap.size ≤ q) (va_pl L (pF cy K N T I Q J) ++ va_pl Lm (wF cz Km Nm Tm Im Qm Jm)) := xj_D hP hD hD1 hFc
  have hP := hPn
  obtain ⟨hE2, hr5⟩ := hr2090
  have hE2 : REP v pa ra L K N T I Q J (kxo (qRs σ (xs (7 * k + 1))).1) (qRs σ (xs (7 * k + 1))).1 := hE2
  have hr5 : r2090 = (qRs σ (xs (7 * k + 1))).2 := hr5
  have hC := hE2.ct
  refine lv_pop hx hb dL_law_853 rfl ?_
  refine lv_aload_n hx hb dL_law_854 rfl (lv_at hl 1 rfl) ?_
  refine lv_aload_n hx hb dL_law_855 rfl (lv_at hl 3 rfl) ?_
  refine lv_iload_n hx hb dL_law_856 rfl (lv_at hl 0 rfl) ?_
  refine lv_iconst (v := 1) hx hb dL_law_857 (by decide) ?_
  refine lv_iadd hx hb dL_law_858 ?_
  refine lv_topi (fun v2092 ev2092 => ?_)
  obtain rfl : v2092 = nI (7 * k + 1) := ev2092.trans (nI_add (7 * k) 1)
  refine va_sld hx hb hX hbl hbA hS (nI_in (by omega) (by omega)) dL_law_859 ?_
  refine W.eq (g2 := F0 m 860 ls [.int (xs (7 * k + 1)), .ref (w 0)]) (by rw [nI_clamp (by omega)]) ?_
  obtain ⟨j2094, hj2094⟩ := wG_7 (cy := cz) (N := Nm) (T := Tm) (I := Im) (Q := Qm) (J := Jm) (hM.at 0 (by decide)) (hM.k 0 (by decide) rfl)
  have hPs := xswapP hP
  have hDs := xswapD hD
  have hFc := xfree (xD_l hDs) hS hA
  refine va_calli (va_runV (As := [.int (xs (7 * k + 1))]) (rest := []) ⟨hx, hb, hml, hown, hts⟩ (f_X7_restart l dC dI cz w Lm Km Nm Tm Qm Im Jm H.size (5 * (k : Int)) (xs (7 * k + 1)) σ hM hI (by omega) hMR) (cwV 1 hts gL_law_X7_restart rfl rfl rfl (by decide +kernel) ⟨Nat.le_of_ble_eq_true rfl, Nat.le_of_ble_eq_true rfl⟩) ⟨mw_blind, va_recv hKm (xP_r hP) (ci := 7) (q0 := j2094) rfl hj2094, fun U hU hW => ⟨rfl, mw_pre (xP_r hP) hKm (xD_r hD) hU hW⟩⟩ rfl rfl hl.1 rfl (lv_room (Nat.le_of_ble_eq_true rfl)) dL_law_860 ⟨show (79 + 12 * k + 0) + 0 ≤ 600000 by omega, show (13150 + 346 * k + 0) + 0 ≤ 7302250 by omega⟩) hS (fun q _ h => hFc q h) hFc (fun r2093 d9 t H locs ht hvm hr2093 hB9 hz1 hk1 hS => ?_)
  obtain ⟨Im, Jm⟩ := d9
  obtain ⟨hP1, hK1, hD1⟩ := hB9
  rw [ht] at hP1
  have hP : va_P (dC, dI) vwCl (va_pl L (pF cy K N T I Q J) ++ va_pl Lm (wF cz Km Nm Tm Im Qm Jm)) H := va_P.app (xj_keep hPs hDs hk1) hP1
  have hD : va_D (fun q : Nat => s.heap.size ≤ q) (va_pl L (pF cy K N T I Q J) ++ va_pl Lm (wF cz Km Nm Tm Im Qm Jm)) := xswapD (xj_D hPs hDs hD1 hFc)
  have hI : MI w (5 * (k : Int) + 5) Im Jm := hr2093.1
  obtain ⟨hMR2, hr7⟩ := hr2093.2
  have hMR2 : MR w Im Jm (qRs σ (xs (7 * k + 1))).1 := hMR2
  have hr7 : r2093 = (qRs σ (xs (7 * k + 1))).2 := hr7
  refine lv_pop hx hb dL_law_863 rfl ?_
  refine lv_goto (tgt := 1052) hx hb dL_law_864 (by decide) ?_
  refine W.widen (k := 79 + 12 * (k + 1)) (n := 13150 + 346 * (k + 1)) (by omega) (by omega) ?_
  exact hT L K T I Q J Im Jm H locs ls ⟨hC, hI.mono (by omega), ⟨pa, ra, _, hE2, hMR2, hSK.rs (xs (7 * k + 1))⟩, hP, hD⟩ hS hl
set_option maxHeartbeats 4000000 in
set_option maxRecDepth 100000 in
theorem lw_c19 {p : Program} {e : Env} {s : State} {m : MethodId} {below : List Frame} {meth : Method} {c : Code} (l : Launch) {b Ls : Nat} {xs : Nat → Int32} (C0 : lw_At p s m meth c b Ls xs) {dC : Nat → ClassId} {dI : Nat → Nat → Nat} {cy : Nat → ClassId} {v : Nat → Nat} {N : Nat → Nat} {cz : Nat → ClassId} {w : Nat → Nat} {Lm : List Nat} {Km Nm : Nat → Nat} {Tm : Nat → Nat → Nat} {Qm : Nat → Nat → Option Nat} (hKx : va_K (dC, dI) vwCl (pTy cy) s) (hKm : va_K (dC, dI) vwCl (mTy cz) s) (hN : xN s) (hM : MS w Lm Km Nm Tm Qm) (hLs : Ls ≤ 448) (k : Nat) (hk : 7 * k + 7 ≤ Ls) (hT : ∀ (L : List Nat) (K : Nat → Nat) (T : Nat → Nat → Nat) (I : Nat → Nat → Int32) (Q : Nat → Nat → Option Nat) (J Im Jm : Nat → Nat → Int32) (H : Heap) (locs : List Loc) (ls : Array Slot), lwI dC dI cy v N cz w Lm Km Nm Tm Qm (fun q : Nat => s.heap.size ≤ q) H (k + 1) L K T I Q J Im Jm → va_S (fun q : Nat => s.heap.size ≤ q) s.heap H locs → lv_has ls 4 [(3, .int (nI (7 * k))), (2, .ref (w 0)), (1, .ref (v 0)), (0, .ref b)] → W p l e room_1 s m #[Value.ref b] below meth c H locs (79 + 12 * (k + 1)) (13150 + 346 * (k + 1)) (lw_Z below #[Value.ref b] s) (F0 m 1052 ls [])) (L : List Nat) (K : Nat → Nat) (T : Nat → Nat → Nat) (I : Nat → Nat → Int32) (Q : Nat → Nat → Option Nat) (J Im Jm : Nat → Nat → Int32) (H : Heap) (locs : List Loc) (ls : Array Slot) (h0 : lwI dC dI cy v N cz w Lm Km Nm Tm Qm (fun q : Nat => s.heap.size ≤ q) H k L K T I Q J Im Jm) (hS : va_S (fun q : Nat => s.heap.size ≤ q) s.heap H locs) (hl : lv_has ls 4 [(3, .int (nI (7 * k))), (2, .ref (w 0)), (1, .ref (v 0)), (0, .ref b)]) : W p l e room_1 s m #[Value.ref b] below meth c H locs (79 + 12 * k) (13150 + 346 * k) (lw_Z below #[Value.ref b] s) (F0 m 867 ls []) := by
  obtain ⟨hx, hb, hr, hml, hown, hts0, hX, hbl, hlocks, hgv⟩ := id C0
  have hown : s.vm.findClass RL = some m.cls := hown
  have hts : ∀ w ∈ wsL_law, w.before #[Value.ref b] s = true := fun w h => hts0 w (wsL_law_in w h)
  have hA : ∀ q : Nat, s.heap.size ≤ q → (fun q : Nat => s.heap.size ≤ q) q := fun _ h => h
  have hbA : ¬ (fun q : Nat => s.heap.size ≤ q) b := Nat.not_le.mpr hbl
  obtain ⟨hC, hI, hSR, hP, hD⟩ := h0
  obtain ⟨pa, ra, σ, hE, hMR, hSK⟩ := hSR
  have hLA : LA (5 * (k : Int)) σ := fun j hj => hMR.ml hj (hI.1 j hj)
  have hB : B5 (σ.1 0 0) := by rw [← hMR.1.1]; exact hI.2.2
  refine lv_aload_n hx hb dL_law_867 rfl (lv_at hl 2 rfl) ?_
  refine lv_aload_n hx hb dL_law_868 rfl (lv_at hl 3 rfl) ?_
  refine lv_iload_n hx hb dL_law_869 rfl (lv_at hl 0 rfl) ?_
  refine lv_iconst (v := 1) hx hb dL_law_870 (by decide) ?_
  refine lv_iadd hx hb dL_law_871 ?_
  refine lv_topi (fun v2095 ev2095 => ?_)
  obtain rfl : v2095 = nI (7 * k + 1) := ev2095.trans (nI_add (7 * k) 1)
  refine va_sld hx hb hX hbl hbA hS (nI_in (by omega) (by omega)) dL_law_872 ?_
  refine W.eq (g2 := F0 m 873 ls [.int (xs (7 * k + 1)), .ref (v 0)]) (by rw [nI_clamp (by omega)]) ?_
  refine lv_aload_n hx hb dL_law_873 rfl (lv_at hl 3 rfl) ?_
  refine lv_iload_n hx hb dL_law_874 rfl (lv_at hl 0 rfl) ?_
  refine lv_iconst (v := 2) hx hb dL_law_875 (by decide) ?_
  refine lv_iadd hx hb dL_law_876 ?_
  refine lv_topi (fun v2096 ev2096 => ?_)
  obtain rfl : v2096 = nI (7 * k + 2) := ev2096.trans (nI_add (7 * k) 2)
  refine va_sld hx hb hX hbl hbA hS (nI_in (by omega) (by omega)) dL_law_877 ?_
  refine W.eq (g2 := F0 m 878 ls [.int (xs (7 * k + 2)), .int (xs (7 * k + 1)), .ref (v 0)]) (by rw [nI_clamp (by omega)]) ?_
  obtain ⟨j2098, hj2098⟩ := pG_5 (cy := cy) (N := N) (T := T) (I := I) (Q := Q) (J := J) (hC.at 0 (by decide)) (hC.k 0 (by decide) rfl)
  have hFc := xfree (xD_l hD) hS hA
  refine va_calli (va_runV (As := [.int (xs (7 * k + 1)), .int (xs (7 * k + 2))]) (rest := []) ⟨hx, hb, hml, hown, hts⟩ (g_X5_trim l dC dI cy v L K N T I Q J H.size pa ra (kxo σ) σ (5 * (k : Int)) (xs (7 * k + 1)) (xs (7 * k + 2)) hE rfl hSK hLA (by omega) hB) (cwV 2 hts gL_law_X5_trim rfl rfl rfl (by decide +kernel) ⟨Nat.le_of_ble_eq_true rfl, Nat.le_of_ble_eq_true rfl⟩) ⟨pw_blind, va_recv hKx (xP_l hP) (ci := 5) (q0 := j2098) rfl hj2098, fun U hU hW => ⟨rfl, pw_pre (xP_l hP) hKx hN (xD_l hD) hU hW⟩⟩ rfl rfl hl.1 rfl (lv_room (Nat.le_of_ble_eq_true rfl)) dL_law_878 ⟨show (79 + 12 * k) + 0 ≤ 600000 by omega, show (13150 + 346 * k) + 0 ≤ 7302250 by omega⟩) hS (fun q _ h => hFc q h) hFc (fun r2097 d9 t H locs ht hvm hr2097 hB9 hz1 hk1 hS => ?_)
  obtain ⟨I, Q, J⟩ := d9
  obtain ⟨hP1, hK1, hD1⟩ := hB9
  rw [ht] at hP1
  have hPn : va_P (dC, dI) vwCl (va_pl L (pF cy K N T I Q J) ++ va_pl Lm (wF cz Km Nm Tm Im Qm Jm)) H := va_P.app hP1 (xj_keep hP hD hk1)
  have hD : va_D (fun q : Nat => s.heap.size ≤ q) (va_pl L (pF cy K N T I Q J) ++ va_pl Lm (wF cz Km Nm Tm Im Qm Jm)) := xj_D hP hD hD1 hFc
  have hP := hPn
  obtain ⟨hE2, hr5⟩ := hr2097
  have hE2 : REP v pa ra L K N T I Q J (kxo (qTr σ (xs (7 * k + 1)) (xs (7 * k + 2))).1) (qTr σ (xs (7 * k + 1)) (xs (7 * k + 2))).1 := hE2
  have hr5 : r2097 = (qTr σ (xs (7 * k + 1)) (xs (7 * k + 2))).2 := hr5
  have hC := hE2.ct
  refine lv_pop hx hb dL_law_881 rfl ?_
  refine lv_aload_n hx hb dL_law_882 rfl (lv_at hl 1 rfl) ?_
  refine lv_aload_n hx hb dL_law_883 rfl (lv_at hl 3 rfl) ?_
  refine lv_iload_n hx hb dL_law_884 rfl (lv_at hl 0 rfl) ?_
  refine lv_iconst (v := 1) hx hb dL_law_885 (by decide) ?_
  refine lv_iadd hx hb dL_law_886 ?_
  refine lv_topi (fun v2099 ev2099 => ?_)
  obtain rfl : v2099 = nI (7 * k + 1) := ev2099.trans (nI_add (7 * k) 1)
  refine va_sld hx hb hX hbl hbA hS (nI_in (by omega) (by omega)) dL_law_887 ?_
  refine W.eq (g2 := F0 m 888 ls [.int (xs (7 * k + 1)), .ref (w 0)]) (by rw [nI_clamp (by omega)]) ?_
  refine lv_aload_n hx hb dL_law_888 rfl (lv_at hl 3 rfl) ?_
  refine lv_iload_n hx hb dL_law_889 rfl (lv_at hl 0 rfl) ?_
  refine lv_iconst (v := 2) hx hb dL_law_890 (by decide) ?_
  refine lv_iadd hx hb dL_law_891 ?_
  refine lv_topi (fun v2100 ev2100 => ?_)
  obtain rfl : v2100 = nI (7 * k + 2) := ev2100.trans (nI_add (7 * k) 2)
  refine va_sld hx hb hX hbl hbA hS (nI_in (by omega) (by omega)) dL_law_892 ?_
  refine W.eq (g2 := F0 m 893 ls [.int (xs (7 * k + 2)), .int (xs (7 * k + 1)), .ref (w 0)]) (by rw [nI_clamp (by omega)]) ?_
  obtain ⟨j2102, hj2102⟩ := wG_7 (cy := cz) (N := Nm) (T := Tm) (I := Im) (Q := Qm) (J := Jm) (hM.at 0 (by decide)) (hM.k 0 (by decide) rfl)
  have hPs := xswapP hP
  have hDs := xswapD hD
  have hFc := xfree (xD_l hDs) hS hA
  refine va_calli (va_runV (As := [.int (xs (7 * k + 1)), .int (xs (7 * k + 2))]) (rest := []) ⟨hx, hb, hml, hown, hts⟩ (f_X7_trim l dC dI cz w Lm Km Nm Tm Qm Im Jm H.size (5 * (k : Int)) (xs (7 * k + 1)) (xs (7 * k + 2)) σ hM hI (by omega) hMR) (cwV 2 hts gL_law_X7_trim rfl rfl rfl (by decide +kernel) ⟨Nat.le_of_ble_eq_true rfl, Nat.le_of_ble_eq_true rfl⟩) ⟨mw_blind, va_recv hKm (xP_r hP) (ci := 7) (q0 := j2102) rfl hj2102, fun U hU hW => ⟨rfl, mw_pre (xP_r hP) hKm (xD_r hD) hU hW⟩⟩ rfl rfl hl.1 rfl (lv_room (Nat.le_of_ble_eq_true rfl)) dL_law_893 ⟨show (79 + 12 * k + 0) + 0 ≤ 600000 by omega, show (13150 + 346 * k + 0) + 0 ≤ 7302250 by omega⟩) hS (fun q _ h => hFc q h) hFc (fun r2101 d9 t H locs ht hvm hr2101 hB9 hz1 hk1 hS => ?_)
  obtain ⟨Im, Jm⟩ := d9
  obtain ⟨hP1, hK1, hD1⟩ := hB9
  rw [ht] at hP1
  have hP : va_P (dC, dI) vwCl (va_pl L (pF cy K N T I Q J) ++ va_pl Lm (wF cz Km Nm Tm Im Qm Jm)) H := va_P.app (xj_keep hPs hDs hk1) hP1
  have hD : va_D (fun q : Nat => s.heap.size ≤ q) (va_pl L (pF cy K N T I Q J) ++ va_pl Lm (wF cz Km Nm Tm Im Qm Jm)) := xswapD (xj_D hPs hDs hD1 hFc)
  have hI : MI w (5 * (k : Int) + 5) Im Jm := hr2101.1
  obtain ⟨hMR2, hr7⟩ := hr2101.2
  have hMR2 : MR w Im Jm (qTr σ (xs (7 * k + 1)) (xs (7 * k + 2))).1 := hMR2
  have hr7 : r2101 = (qTr σ (xs (7 * k + 1)) (xs (7 * k + 2))).2 := hr7
  refine lv_pop hx hb dL_law_896 rfl ?_
  refine lv_goto (tgt := 1052) hx hb dL_law_897 (by decide) ?_
  refine W.widen (k := 79 + 12 * (k + 1)) (n := 13150 + 346 * (k + 1)) (by omega) (by omega) ?_
  exact hT L K T I Q J Im Jm H locs ls ⟨hC, hI.mono (by omega), ⟨pa, ra, _, hE2, hMR2, hSK.tr hLA (xs (7 * k + 1)) (xs (7 * k + 2))⟩, hP, hD⟩ hS hl
set_option maxHeartbeats 4000000 in
set_option maxRecDepth 100000 in
theorem lw_c20 {p : Program} {e : Env} {s : State} {m : MethodId} {below : List Frame} {meth : Method} {c : Code} (l : Launch) {b Ls : Nat} {xs : Nat → Int32} (C0 : lw_At p s m meth c b Ls xs) {dC : Nat → ClassId} {dI : Nat → Nat → Nat} {cy : Nat → ClassId} {v : Nat → Nat} {N : Nat → Nat} {cz : Nat → ClassId} {w : Nat → Nat} {Lm : List Nat} {Km Nm : Nat → Nat} {Tm : Nat → Nat → Nat} {Qm : Nat → Nat → Option Nat} (hKx : va_K (dC, dI) vwCl (pTy cy) s) (hKm : va_K (dC, dI) vwCl (mTy cz) s) (hN : xN s) (hM : MS w Lm Km Nm Tm Qm) (hLs : Ls ≤ 448) (k : Nat) (hk : 7 * k + 7 ≤ Ls) (hT : ∀ (L : List Nat) (K : Nat → Nat) (T : Nat → Nat → Nat) (I : Nat → Nat → Int32) (Q : Nat → Nat → Option Nat) (J Im Jm : Nat → Nat → Int32) (H : Heap) (locs : List Loc) (ls : Array Slot), lwI dC dI cy v N cz w Lm Km Nm Tm Qm (fun q : Nat => s.heap.size ≤ q) H (k + 1) L K T I Q J Im Jm → va_S (fun q : Nat => s.heap.size ≤ q) s.heap H locs → lv_has ls 4 [(3, .int (nI (7 * k))), (2, .ref (w 0)), (1, .ref (v 0)), (0, .ref b)] → W p l e room_1 s m #[Value.ref b] below meth c H locs (79 + 12 * (k + 1)) (13150 + 346 * (k + 1)) (lw_Z below #[Value.ref b] s) (F0 m 1052 ls [])) (L : List Nat) (K : Nat → Nat) (T : Nat → Nat → Nat) (I : Nat → Nat → Int32) (Q : Nat → Nat → Option Nat) (J Im Jm : Nat → Nat → Int32) (H : Heap) (locs : List Loc) (ls : Array Slot) (h0 : lwI dC dI cy v N cz w Lm Km Nm Tm Qm (fun q : Nat => s.heap.size ≤ q) H k L K T I Q J Im Jm) (hS : va_S (fun q : Nat => s.heap.size ≤ q) s.heap H locs) (hl : lv_has ls 4 [(3, .int (nI (7 * k))), (2, .ref (w 0)), (1, .ref (v 0)), (0, .ref b)]) : W p l e room_1 s m #[Value.ref b] below meth c H locs (79 + 12 * k) (13150 + 346 * k) (lw_Z below #[Value.ref b] s) (F0 m 900 ls []) := by
  obtain ⟨hx, hb, hr, hml, hown, hts0, hX, hbl, hlocks, hgv⟩ := id C0
  have hown : s.vm.findClass RL = some m.cls := hown
  have hts : ∀ w ∈ wsL_law, w.before #[Value.ref b] s = true := fun w h => hts0 w (wsL_law_in w h)
  have hA : ∀ q : Nat, s.heap.size ≤ q → (fun q : Nat => s.heap.size ≤ q) q := fun _ h => h
  have hbA : ¬ (fun q : Nat => s.heap.size ≤ q) b := Nat.not_le.mpr hbl
  obtain ⟨hC, hI, hSR, hP, hD⟩ := h0
  obtain ⟨pa, ra, σ, hE, hMR, hSK⟩ := hSR
  have hLA : LA (5 * (k : Int)) σ := fun j hj => hMR.ml hj (hI.1 j hj)
  have hB : B5 (σ.1 0 0) := by rw [← hMR.1.1]; exact hI.2.2
  refine lv_aload_n hx hb dL_law_900 rfl (lv_at hl 2 rfl) ?_
  refine lv_aload_n hx hb dL_law_901 rfl (lv_at hl 3 rfl) ?_
  refine lv_iload_n hx hb dL_law_902 rfl (lv_at hl 0 rfl) ?_
  refine lv_iconst (v := 1) hx hb dL_law_903 (by decide) ?_
  refine lv_iadd hx hb dL_law_904 ?_
  refine lv_topi (fun v2103 ev2103 => ?_)
  obtain rfl : v2103 = nI (7 * k + 1) := ev2103.trans (nI_add (7 * k) 1)
  refine va_sld hx hb hX hbl hbA hS (nI_in (by omega) (by omega)) dL_law_905 ?_
  refine W.eq (g2 := F0 m 906 ls [.int (xs (7 * k + 1)), .ref (v 0)]) (by rw [nI_clamp (by omega)]) ?_
  refine lv_aload_n hx hb dL_law_906 rfl (lv_at hl 3 rfl) ?_
  refine lv_iload_n hx hb dL_law_907 rfl (lv_at hl 0 rfl) ?_
  refine lv_iconst (v := 2) hx hb dL_law_908 (by decide) ?_
  refine lv_iadd hx hb dL_law_909 ?_
  refine lv_topi (fun v2104 ev2104 => ?_)
  obtain rfl : v2104 = nI (7 * k + 2) := ev2104.trans (nI_add (7 * k) 2)
  refine va_sld hx hb hX hbl hbA hS (nI_in (by omega) (by omega)) dL_law_910 ?_
  refine W.eq (g2 := F0 m 911 ls [.int (xs (7 * k + 2)), .int (xs (7 * k + 1)), .ref (v 0)]) (by rw [nI_clamp (by omega)]) ?_
  refine lv_aload_n hx hb dL_law_911 rfl (lv_at hl 3 rfl) ?_
  refine lv_iload_n hx hb dL_law_912 rfl (lv_at hl 0 rfl) ?_
  refine lv_iconst (v := 3) hx hb dL_law_913 (by decide) ?_
  refine lv_iadd hx hb dL_law_914 ?_
  refine lv_topi (fun v2105 ev2105 => ?_)
  obtain rfl : v2105 = nI (7 * k + 3) := ev2105.trans (nI_add (7 * k) 3)
  refine va_sld hx hb hX hbl hbA hS (nI_in (by omega) (by omega)) dL_law_915 ?_
  refine W.eq (g2 := F0 m 916 ls [.int (xs (7 * k + 3)), .int (xs (7 * k + 2)), .int (xs (7 * k + 1)), .ref (v 0)]) (by rw [nI_clamp (by omega)]) ?_
  obtain ⟨j2107, hj2107⟩ := pG_5 (cy := cy) (N := N) (T := T) (I := I) (Q := Q) (J := J) (hC.at 0 (by decide)) (hC.k 0 (by decide) rfl)
  refine vp_callSi (W.runV (As := [.int (xs (7 * k + 1)), .int (xs (7 * k + 2)), .int (xs (7 * k + 3))]) (rest := []) ⟨hx, hb, hml, hown, hts⟩ (c_X5_log l dC dI cy v L K N T I Q J (xs (7 * k + 1)) (xs (7 * k + 2)) (xs (7 * k + 3)) hC) (cwV 3 hts gL_law_X5_log rfl rfl rfl (by decide +kernel) ⟨Nat.le_of_ble_eq_true rfl, Nat.le_of_ble_eq_true rfl⟩) ⟨pb_blind, va_recv hKx (xP_l hP) (ci := 5) (q0 := j2107) rfl hj2107, fun U hU hW => ⟨rfl, pb_pre (xP_l hP) hKx hN hU hW⟩⟩ rfl rfl hl.1 rfl (lv_room (Nat.le_of_ble_eq_true rfl)) dL_law_916 ⟨show (79 + 12 * k) + 0 ≤ 600000 by omega, show (13150 + 346 * k) + 0 ≤ 7302250 by omega⟩) (fun r2106 hr2106 => ?_)
  refine lv_pop hx hb dL_law_919 rfl ?_
  refine lv_aload_n hx hb dL_law_920 rfl (lv_at hl 1 rfl) ?_
  refine lv_aload_n hx hb dL_law_921 rfl (lv_at hl 3 rfl) ?_
  refine lv_iload_n hx hb dL_law_922 rfl (lv_at hl 0 rfl) ?_
  refine lv_iconst (v := 1) hx hb dL_law_923 (by decide) ?_
  refine lv_iadd hx hb dL_law_924 ?_
  refine lv_topi (fun v2108 ev2108 => ?_)
  obtain rfl : v2108 = nI (7 * k + 1) := ev2108.trans (nI_add (7 * k) 1)
  refine va_sld hx hb hX hbl hbA hS (nI_in (by omega) (by omega)) dL_law_925 ?_
  refine W.eq (g2 := F0 m 926 ls [.int (xs (7 * k + 1)), .ref (w 0)]) (by rw [nI_clamp (by omega)]) ?_
  refine lv_aload_n hx hb dL_law_926 rfl (lv_at hl 3 rfl) ?_
  refine lv_iload_n hx hb dL_law_927 rfl (lv_at hl 0 rfl) ?_
  refine lv_iconst (v := 2) hx hb dL_law_928 (by decide) ?_
  refine lv_iadd hx hb dL_law_929 ?_
  refine lv_topi (fun v2109 ev2109 => ?_)
  obtain rfl : v2109 = nI (7 * k + 2) := ev2109.trans (nI_add (7 * k) 2)
  refine va_sld hx hb hX hbl hbA hS (nI_in (by omega) (by omega)) dL_law_930 ?_
  refine W.eq (g2 := F0 m 931 ls [.int (xs (7 * k + 2)), .int (xs (7 * k + 1)), .ref (w 0)]) (by rw [nI_clamp (by omega)]) ?_
  refine lv_aload_n hx hb dL_law_931 rfl (lv_at hl 3 rfl) ?_
  refine lv_iload_n hx hb dL_law_932 rfl (lv_at hl 0 rfl) ?_
  refine lv_iconst (v := 3) hx hb dL_law_933 (by decide) ?_
  refine lv_iadd hx hb dL_law_934 ?_
  refine lv_topi (fun v2110 ev2110 => ?_)
  obtain rfl : v2110 = nI (7 * k + 3) := ev2110.trans (nI_add (7 * k) 3)
  refine va_sld hx hb hX hbl hbA hS (nI_in (by omega) (by omega)) dL_law_935 ?_
  refine W.eq (g2 := F0 m 936 ls [.int (xs (7 * k + 3)), .int (xs (7 * k + 2)), .int (xs (7 * k + 1)), .ref (w 0)]) (by rw [nI_clamp (by omega)]) ?_
  obtain ⟨j2112, hj2112⟩ := wG_7 (cy := cz) (N := Nm) (T := Tm) (I := Im) (Q := Qm) (J := Jm) (hM.at 0 (by decide)) (hM.k 0 (by decide) rfl)
  refine vp_callSi (W.runV (As := [.int (xs (7 * k + 1)), .int (xs (7 * k + 2)), .int (xs (7 * k + 3))]) (rest := []) ⟨hx, hb, hml, hown, hts⟩ (c_X7_log l dC dI cz w Lm Km Nm Tm Qm Im Jm (xs (7 * k + 1)) (xs (7 * k + 2)) (xs (7 * k + 3)) hM) (cwV 3 hts gL_law_X7_log rfl rfl rfl (by decide +kernel) ⟨Nat.le_of_ble_eq_true rfl, Nat.le_of_ble_eq_true rfl⟩) ⟨mb_blind, va_recv hKm (xP_r hP) (ci := 7) (q0 := j2112) rfl hj2112, fun U hU hW => ⟨rfl, mb_pre (xP_r hP) hKm hU hW⟩⟩ rfl rfl hl.1 rfl (lv_room (Nat.le_of_ble_eq_true rfl)) dL_law_936 ⟨show (79 + 12 * k) + 0 ≤ 600000 by omega, show (13150 + 346 * k) + 0 ≤ 7302250 by omega⟩) (fun r2111 hr2111 => ?_)
  refine lv_pop hx hb dL_law_939 rfl ?_
  refine lv_goto (tgt := 1052) hx hb dL_law_940 (by decide) ?_
  refine W.widen (k := 79 + 12 * (k + 1)) (n := 13150 + 346 * (k + 1)) (by omega) (by omega) ?_
  exact hT L K T I Q J Im Jm H locs ls ⟨hC, hI.mono (by omega), ⟨pa, ra, σ, hE, hMR, hSK⟩, hP, hD⟩ hS hl
set_option maxHeartbeats 4000000 in
set_option maxRecDepth 100000 in
theorem lw_c21 {p : Program} {e : Env} {s : State} {m : MethodId} {below : List Frame} {meth : Method} {c : Code} (l : Launch) {b Ls : Nat} {xs : Nat → Int32} (C0 : lw_At p s m meth c b Ls xs) {dC : Nat → ClassId} {dI : Nat → Nat → Nat} {cy : Nat → ClassId} {v : Nat → Nat} {N : Nat → Nat} {cz : Nat → ClassId} {w : Nat → Nat} {Lm : List Nat} {Km Nm : Nat → Nat} {Tm : Nat → Nat → Nat} {Qm : Nat → Nat → Option Nat} (hKx : va_K (dC, dI) vwCl (pTy cy) s) (hKm : va_K (dC, dI) vwCl (mTy cz) s) (hN : xN s) (hM : MS w Lm Km Nm Tm Qm) (hLs : Ls ≤ 448) (k : Nat) (hk : 7 * k + 7 ≤ Ls) (hT : ∀ (L : List Nat) (K : Nat → Nat) (T : Nat → Nat → Nat) (I : Nat → Nat → Int32) (Q : Nat → Nat → Option Nat) (J Im Jm : Nat → Nat → Int32) (H : Heap) (locs : List Loc) (ls : Array Slot), lwI dC dI cy v N cz w Lm Km Nm Tm Qm (fun q : Nat => s.heap.size ≤ q) H (k + 1) L K T I Q J Im Jm → va_S (fun q : Nat => s.heap.size ≤ q) s.heap H locs → lv_has ls 4 [(3, .int (nI (7 * k))), (2, .ref (w 0)), (1, .ref (v 0)), (0, .ref b)] → W p l e room_1 s m #[Value.ref b] below meth c H locs (79 + 12 * (k + 1)) (13150 + 346 * (k + 1)) (lw_Z below #[Value.ref b] s) (F0 m 1052 ls [])) (L : List Nat) (K : Nat → Nat) (T : Nat → Nat → Nat) (I : Nat → Nat → Int32) (Q : Nat → Nat → Option Nat) (J Im Jm : Nat → Nat → Int32) (H : Heap) (locs : List Loc) (ls : Array Slot) (h0 : lwI dC dI cy v N cz w Lm Km Nm Tm Qm (fun q : Nat => s.heap.size ≤ q) H k L K T I Q J Im Jm) (hS : va_S (fun q : Nat => s.heap.size ≤ q) s.heap H locs) (hl : lv_has ls 4 [(3, .int (nI (7 * k))), (2, .ref (w 0)), (1, .ref (v 0)), (0, .ref b)]) : W p l e room_1 s m #[Value.ref b] below meth c H locs (79 + 12 * k) (13150 + 346 * k) (lw_Z below #[Value.ref b] s) (F0 m 943 ls []) := by
  obtain ⟨hx, hb, hr, hml, hown, hts0, hX, hbl, hlocks, hgv⟩ := id C0
  have hown : s.vm.findClass RL = some m.cls := hown
  have hts : ∀ w ∈ wsL_law, w.before #[Value.ref b] s = true := fun w h => hts0 w (wsL_law_in w h)
  have hA : ∀ q : Nat, s.heap.size ≤ q → (fun q : Nat => s.heap.size ≤ q) q := fun _ h => h
  have hbA : ¬ (fun q : Nat => s.heap.size ≤ q) b := Nat.not_le.mpr hbl
  obtain ⟨hC, hI, hSR, hP, hD⟩ := h0
  obtain ⟨pa, ra, σ, hE, hMR, hSK⟩ := hSR
  have hLA : LA (5 * (k : Int)) σ := fun j hj => hMR.ml hj (hI.1 j hj)
  have hB : B5 (σ.1 0 0) := by rw [← hMR.1.1]; exact hI.2.2
  refine lv_aload_n hx hb dL_law_943 rfl (lv_at hl 2 rfl) ?_
  refine lv_aload_n hx hb dL_law_944 rfl (lv_at hl 3 rfl) ?_
  refine lv_iload_n hx hb dL_law_945 rfl (lv_at hl 0 rfl) ?_
  refine lv_iconst (v := 1) hx hb dL_law_946 (by decide) ?_
  refine lv_iadd hx hb dL_law_947 ?_
  refine lv_topi (fun v2113 ev2113 => ?_)
  obtain rfl : v2113 = nI (7 * k + 1) := ev2113.trans (nI_add (7 * k) 1)
  refine va_sld hx hb hX hbl hbA hS (nI_in (by omega) (by omega)) dL_law_948 ?_
  refine W.eq (g2 := F0 m 949 ls [.int (xs (7 * k + 1)), .ref (v 0)]) (by rw [nI_clamp (by omega)]) ?_
  refine lv_aload_n hx hb dL_law_949 rfl (lv_at hl 3 rfl) ?_
  refine lv_iload_n hx hb dL_law_950 rfl (lv_at hl 0 rfl) ?_
  refine lv_iconst (v := 2) hx hb dL_law_951 (by decide) ?_
  refine lv_iadd hx hb dL_law_952 ?_
  refine lv_topi (fun v2114 ev2114 => ?_)
  obtain rfl : v2114 = nI (7 * k + 2) := ev2114.trans (nI_add (7 * k) 2)
  refine va_sld hx hb hX hbl hbA hS (nI_in (by omega) (by omega)) dL_law_953 ?_
  refine W.eq (g2 := F0 m 954 ls [.int (xs (7 * k + 2)), .int (xs (7 * k + 1)), .ref (v 0)]) (by rw [nI_clamp (by omega)]) ?_
  refine lv_aload_n hx hb dL_law_954 rfl (lv_at hl 3 rfl) ?_
  refine lv_iload_n hx hb dL_law_955 rfl (lv_at hl 0 rfl) ?_
  refine lv_iconst (v := 3) hx hb dL_law_956 (by decide) ?_
  refine lv_iadd hx hb dL_law_957 ?_
  refine lv_topi (fun v2115 ev2115 => ?_)
  obtain rfl : v2115 = nI (7 * k + 3) := ev2115.trans (nI_add (7 * k) 3)
  refine va_sld hx hb hX hbl hbA hS (nI_in (by omega) (by omega)) dL_law_958 ?_
  refine W.eq (g2 := F0 m 959 ls [.int (xs (7 * k + 3)), .int (xs (7 * k + 2)), .int (xs (7 * k + 1)), .ref (v 0)]) (by rw [nI_clamp (by omega)]) ?_
  refine lv_aload_n hx hb dL_law_959 rfl (lv_at hl 3 rfl) ?_
  refine lv_iload_n hx hb dL_law_960 rfl (lv_at hl 0 rfl) ?_
  refine lv_iconst (v := 4) hx hb dL_law_961 (by decide) ?_
  refine lv_iadd hx hb dL_law_962 ?_
  refine lv_topi (fun v2116 ev2116 => ?_)
  obtain rfl : v2116 = nI (7 * k + 4) := ev2116.trans (nI_add (7 * k) 4)
  refine va_sld hx hb hX hbl hbA hS (nI_in (by omega) (by omega)) dL_law_963 ?_
  refine W.eq (g2 := F0 m 964 ls [.int (xs (7 * k + 4)), .int (xs (7 * k + 3)), .int (xs (7 * k + 2)), .int (xs (7 * k + 1)), .ref (v 0)]) (by rw [nI_clamp (by omega)]) ?_
  obtain ⟨j2118, hj2118⟩ := pG_5 (cy := cy) (N := N) (T := T) (I := I) (Q := Q) (J := J) (hC.at 0 (by decide)) (hC.k 0 (by decide) rfl)
  refine vp_callSl (W.runV (As := [.int (xs (7 * k + 1)), .int (xs (7 * k + 2)), .int (xs (7 * k + 3)), .int (xs (7 * k + 4))]) (rest := []) ⟨hx, hb, hml, hown, hts⟩ (c_X5_record l dC dI cy v L K N T I Q J (xs (7 * k + 1)) (xs (7 * k + 2)) (xs (7 * k + 3)) (xs (7 * k + 4)) hC) (cwV 4 hts gL_law_X5_record rfl rfl rfl (by decide +kernel) ⟨Nat.le_of_ble_eq_true rfl, Nat.le_of_ble_eq_true rfl⟩) ⟨pb_blind, va_recv hKx (xP_l hP) (ci := 5) (q0 := j2118) rfl hj2118, fun U hU hW => ⟨rfl, pb_pre (xP_l hP) hKx hN hU hW⟩⟩ rfl rfl hl.1 rfl (lv_room (Nat.le_of_ble_eq_true rfl)) dL_law_964 ⟨show (79 + 12 * k) + 0 ≤ 600000 by omega, show (13150 + 346 * k) + 0 ≤ 7302250 by omega⟩) (fun r2117 hr2117 => ?_)
  refine lv_pop2_2 hx hb dL_law_967 rfl ?_
  refine lv_aload_n hx hb dL_law_968 rfl (lv_at hl 1 rfl) ?_
  refine lv_aload_n hx hb dL_law_969 rfl (lv_at hl 3 rfl) ?_
  refine lv_iload_n hx hb dL_law_970 rfl (lv_at hl 0 rfl) ?_
  refine lv_iconst (v := 1) hx hb dL_law_971 (by decide) ?_
  refine lv_iadd hx hb dL_law_972 ?_
  refine lv_topi (fun v2119 ev2119 => ?_)
  obtain rfl : v2119 = nI (7 * k + 1) := ev2119.trans (nI_add (7 * k) 1)
  refine va_sld hx hb hX hbl hbA hS (nI_in (by omega) (by omega)) dL_law_973 ?_
  refine W.eq (g2 := F0 m 974 ls [.int (xs (7 * k + 1)), .ref (w 0)]) (by rw [nI_clamp (by omega)]) ?_
  refine lv_aload_n hx hb dL_law_974 rfl (lv_at hl 3 rfl) ?_
  refine lv_iload_n hx hb dL_law_975 rfl (lv_at hl 0 rfl) ?_
  refine lv_iconst (v := 2) hx hb dL_law_976 (by decide) ?_
  refine lv_iadd hx hb dL_law_977 ?_
  refine lv_topi (fun v2120 ev2120 => ?_)
  obtain rfl : v2120 = nI (7 * k + 2) := ev2120.trans (nI_add (7 * k) 2)
  refine va_sld hx hb hX hbl hbA hS (nI_in (by omega) (by omega)) dL_law_978 ?_
  refine W.eq (g2 := F0 m 979 ls [.int (xs (7 * k + 2)), .int (xs (7 * k + 1)), .ref (w 0)]) (by rw [nI_clamp (by omega)]) ?_
  refine lv_aload_n hx hb dL_law_979 rfl (lv_at hl 3 rfl) ?_
  refine lv_iload_n hx hb dL_law_980 rfl (lv_at hl 0 rfl) ?_
  refine lv_iconst (v := 3) hx hb dL_law_981 (by decide) ?_
  refine lv_iadd hx hb dL_law_982 ?_
  refine lv_topi (fun v2121 ev2121 => ?_)
  obtain rfl : v2121 = nI (7 * k + 3) := ev2121.trans (nI_add (7 * k) 3)
  refine va_sld hx hb hX hbl hbA hS (nI_in (by omega) (by omega)) dL_law_983 ?_
  refine W.eq (g2 := F0 m 984 ls [.int (xs (7 * k + 3)), .int (xs (7 * k + 2)), .int (xs (7 * k + 1)), .ref (w 0)]) (by rw [nI_clamp (by omega)]) ?_
  refine lv_aload_n hx hb dL_law_984 rfl (lv_at hl 3 rfl) ?_
  refine lv_iload_n hx hb dL_law_985 rfl (lv_at hl 0 rfl) ?_
  refine lv_iconst (v := 4) hx hb dL_law_986 (by decide) ?_
  refine lv_iadd hx hb dL_law_987 ?_
  refine lv_topi (fun v2122 ev2122 => ?_)
  obtain rfl : v2122 = nI (7 * k + 4) := ev2122.trans (nI_add (7 * k) 4)
  refine va_sld hx hb hX hbl hbA hS (nI_in (by omega) (by omega)) dL_law_988 ?_
  refine W.eq (g2 := F0 m 989 ls [.int (xs (7 * k + 4)), .int (xs (7 * k + 3)), .int (xs (7 * k + 2)), .int (xs (7 * k + 1)), .ref (w 0)]) (by rw [nI_clamp (by omega)]) ?_
  obtain ⟨j2124, hj2124⟩ := wG_7 (cy := cz) (N := Nm) (T := Tm) (I := Im) (Q := Qm) (J := Jm) (hM.at 0 (by decide)) (hM.k 0 (by decide) rfl)
  refine vp_callSl (W.runV (As := [.int (xs (7 * k + 1)), .int (xs (7 * k + 2)), .int (xs (7 * k + 3)), .int (xs (7 * k + 4))]) (rest := []) ⟨hx, hb, hml, hown, hts⟩ (c_X7_record l dC dI cz w Lm Km Nm Tm Qm Im Jm (xs (7 * k + 1)) (xs (7 * k + 2)) (xs (7 * k + 3)) (xs (7 * k + 4)) hM (5 * (k : Int)) hI) (cwV 4 hts gL_law_X7_record rfl rfl rfl (by decide +kernel) ⟨Nat.le_of_ble_eq_true rfl, Nat.le_of_ble_eq_true rfl⟩) ⟨mb_blind, va_recv hKm (xP_r hP) (ci := 7) (q0 := j2124) rfl hj2124, fun U hU hW => ⟨rfl, mb_pre (xP_r hP) hKm hU hW⟩⟩ rfl rfl hl.1 rfl (lv_room (Nat.le_of_ble_eq_true rfl)) dL_law_989 ⟨show (79 + 12 * k) + 0 ≤ 600000 by omega, show (13150 + 346 * k) + 0 ≤ 7302250 by omega⟩) (fun r2123 hr2123 => ?_)
  refine lv_pop2_2 hx hb dL_law_992 rfl ?_
  refine lv_goto (tgt := 1052) hx hb dL_law_993 (by decide) ?_
  refine W.widen (k := 79 + 12 * (k + 1)) (n := 13150 + 346 * (k + 1)) (by omega) (by omega) ?_
  exact hT L K T I Q J Im Jm H locs ls ⟨hC, hI.mono (by omega), ⟨pa, ra, σ, hE, hMR, hSK⟩, hP, hD⟩ hS hl
set_option maxHeartbeats 4000000 in
set_option maxRecDepth 100000 in
theorem lw_c22 {p : Program} {e : Env} {s : State} {m : MethodId} {below : List Frame} {meth : Method} {c : Code} (l : Launch) {b Ls : Nat} {xs : Nat → Int32} (C0 : lw_At p s m meth c b Ls xs) {dC : Nat → ClassId} {dI : Nat → Nat → Nat} {cy : Nat → ClassId} {v : Nat → Nat} {N : Nat → Nat} {cz : Nat → ClassId} {w : Nat → Nat} {Lm : List Nat} {Km Nm : Nat → Nat} {Tm : Nat → Nat → Nat} {Qm : Nat → Nat → Option Nat} (hKx : va_K (dC, dI) vwCl (pTy cy) s) (hKm : va_K (dC, dI) vwCl (mTy cz) s) (hN : xN s) (hM : MS w Lm Km Nm Tm Qm) (hLs : Ls ≤ 448) (k : Nat) (hk : 7 * k + 7 ≤ Ls) (hT : ∀ (L : List Nat) (K : Nat → Nat) (T : Nat → Nat → Nat) (I : Nat → Nat → Int32) (Q : Nat → Nat → Option Nat) (J Im Jm : Nat → Nat → Int32) (H : Heap) (locs : List Loc) (ls : Array Slot), lwI dC dI cy v N cz w Lm Km Nm Tm Qm (fun q : Nat => s.heap.size ≤ q) H (k + 1) L K T I Q J Im Jm → va_S (fun q : Nat => s.heap.size ≤ q) s.heap H locs → lv_has ls 4 [(3, .int (nI (7 * k))), (2, .ref (w 0)), (1, .ref (v 0)), (0, .ref b)] → W p l e room_1 s m #[Value.ref b] below meth c H locs (79 + 12 * (k + 1)) (13150 + 346 * (k + 1)) (lw_Z below #[Value.ref b] s) (F0 m 1052 ls [])) (L : List Nat) (K : Nat → Nat) (T : Nat → Nat → Nat) (I : Nat → Nat → Int32) (Q : Nat → Nat → Option Nat) (J Im Jm : Nat → Nat → Int32) (H : Heap) (locs : List Loc) (ls : Array Slot) (h0 : lwI dC dI cy v N cz w Lm Km Nm Tm Qm (fun q : Nat => s.heap.size ≤ q) H k L K T I Q J Im Jm) (hS : va_S (fun q : Nat => s.heap.size ≤ q) s.heap H locs) (hl : lv_has ls 4 [(3, .int (nI (7 * k))), (2, .ref (w 0)), (1, .ref (v 0)), (0, .ref b)]) : W p l e room_1 s m #[Value.ref b] below meth c H locs (79 + 12 * k) (13150 + 346 * k) (lw_Z below #[Value.ref b] s) (F0 m 996 ls []) := by
  obtain ⟨hx, hb, hr, hml, hown, hts0, hX, hbl, hlocks, hgv⟩ := id C0
  have hown : s.vm.findClass RL = some m.cls := hown
  have hts : ∀ w ∈ wsL_law, w.before #[Value.ref b] s = true := fun w h => hts0 w (wsL_law_in w h)
  have hA : ∀ q : Nat, s.heap.size ≤ q → (fun q : Nat => s.heap.size ≤ q) q := fun _ h => h
  have hbA : ¬ (fun q : Nat => s.heap.size ≤ q) b := Nat.not_le.mpr hbl
  obtain ⟨hC, hI, hSR, hP, hD⟩ := h0
  obtain ⟨pa, ra, σ, hE, hMR, hSK⟩ := hSR
  have hLA : LA (5 * (k : Int)) σ := fun j hj => hMR.ml hj (hI.1 j hj)
  have hB : B5 (σ.1 0 0) := by rw [← hMR.1.1]; exact hI.2.2
  refine lv_aload_n hx hb dL_law_996 rfl (lv_at hl 2 rfl) ?_
  refine lv_aload_n hx hb dL_law_997 rfl (lv_at hl 3 rfl) ?_
  refine lv_iload_n hx hb dL_law_998 rfl (lv_at hl 0 rfl) ?_
  refine lv_iconst (v := 1) hx hb dL_law_999 (by decide) ?_
  refine lv_iadd hx hb dL_law_1000 ?_
  refine lv_topi (fun v2125 ev2125 => ?_)
  obtain rfl : v2125 = nI (7 * k + 1) := ev2125.trans (nI_add (7 * k) 1)
  refine va_sld hx hb hX hbl hbA hS (nI_in (by omega) (by omega)) dL_law_1001 ?_
  refine W.eq (g2 := F0 m 1002 ls [.int (xs (7 * k + 1)), .ref (v 0)]) (by rw [nI_clamp (by omega)]) ?_
  refine lv_aload_n hx hb dL_law_1002 rfl (lv_at hl 3 rfl) ?_
  refine lv_iload_n hx hb dL_law_1003 rfl (lv_at hl 0 rfl) ?_
  refine lv_iconst (v := 2) hx hb dL_law_1004 (by decide) ?_
  refine lv_iadd hx hb dL_law_1005 ?_
  refine lv_topi (fun v2126 ev2126 => ?_)
  obtain rfl : v2126 = nI (7 * k + 2) := ev2126.trans (nI_add (7 * k) 2)
  refine va_sld hx hb hX hbl hbA hS (nI_in (by omega) (by omega)) dL_law_1006 ?_
  refine W.eq (g2 := F0 m 1007 ls [.int (xs (7 * k + 2)), .int (xs (7 * k + 1)), .ref (v 0)]) (by rw [nI_clamp (by omega)]) ?_
  obtain ⟨j2128, hj2128⟩ := pG_5 (cy := cy) (N := N) (T := T) (I := I) (Q := Q) (J := J) (hC.at 0 (by decide)) (hC.k 0 (by decide) rfl)
  refine vp_callSi (W.runV (As := [.int (xs (7 * k + 1)), .int (xs (7 * k + 2))]) (rest := []) ⟨hx, hb, hml, hown, hts⟩ (c_X5_state l dC dI cy v L K N T I Q J (xs (7 * k + 1)) (xs (7 * k + 2)) hC) (cwV 2 hts gL_law_X5_state rfl rfl rfl (by decide +kernel) ⟨Nat.le_of_ble_eq_true rfl, Nat.le_of_ble_eq_true rfl⟩) ⟨pb_blind, va_recv hKx (xP_l hP) (ci := 5) (q0 := j2128) rfl hj2128, fun U hU hW => ⟨rfl, pb_pre (xP_l hP) hKx hN hU hW⟩⟩ rfl rfl hl.1 rfl (lv_room (Nat.le_of_ble_eq_true rfl)) dL_law_1007 ⟨show (79 + 12 * k) + 0 ≤ 600000 by omega, show (13150 + 346 * k) + 0 ≤ 7302250 by omega⟩) (fun r2127 hr2127 => ?_)
  refine lv_pop hx hb dL_law_1010 rfl ?_
  refine lv_aload_n hx hb dL_law_1011 rfl (lv_at hl 1 rfl) ?_
  refine lv_aload_n hx hb dL_law_1012 rfl (lv_at hl 3 rfl) ?_
  refine lv_iload_n hx hb dL_law_1013 rfl (lv_at hl 0 rfl) ?_
  refine lv_iconst (v := 1) hx hb dL_law_1014 (by decide) ?_
  refine lv_iadd hx hb dL_law_1015 ?_
  refine lv_topi (fun v2129 ev2129 => ?_)
  obtain rfl : v2129 = nI (7 * k + 1) := ev2129.trans (nI_add (7 * k) 1)
  refine va_sld hx hb hX hbl hbA hS (nI_in (by omega) (by omega)) dL_law_1016 ?_
  refine W.eq (g2 := F0 m 1017 ls [.int (xs (7 * k + 1)), .ref (w 0)]) (by rw [nI_clamp (by omega)]) ?_
  refine lv_aload_n hx hb dL_law_1017 rfl (lv_at hl 3 rfl) ?_
  refine lv_iload_n hx hb dL_law_1018 rfl (lv_at hl 0 rfl) ?_
  refine lv_iconst (v := 2) hx hb dL_law_1019 (by decide) ?_
  refine lv_iadd hx hb dL_law_1020 ?_
  refine lv_topi (fun v2130 ev2130 => ?_)
  obtain rfl : v2130 = nI (7 * k + 2) := ev2130.trans (nI_add (7 * k) 2)
  refine va_sld hx hb hX hbl hbA hS (nI_in (by omega) (by omega)) dL_law_1021 ?_
  refine W.eq (g2 := F0 m 1022 ls [.int (xs (7 * k + 2)), .int (xs (7 * k + 1)), .ref (w 0)]) (by rw [nI_clamp (by omega)]) ?_
  obtain ⟨j2132, hj2132⟩ := wG_7 (cy := cz) (N := Nm) (T := Tm) (I := Im) (Q := Qm) (J := Jm) (hM.at 0 (by decide)) (hM.k 0 (by decide) rfl)
  refine vp_callSi (W.runV (As := [.int (xs (7 * k + 1)), .int (xs (7 * k + 2))]) (rest := []) ⟨hx, hb, hml, hown, hts⟩ (c_X7_state l dC dI cz w Lm Km Nm Tm Qm Im Jm (xs (7 * k + 1)) (xs (7 * k + 2)) hM (5 * (k : Int)) hI) (cwV 2 hts gL_law_X7_state rfl rfl rfl (by decide +kernel) ⟨Nat.le_of_ble_eq_true rfl, Nat.le_of_ble_eq_true rfl⟩) ⟨mb_blind, va_recv hKm (xP_r hP) (ci := 7) (q0 := j2132) rfl hj2132, fun U hU hW => ⟨rfl, mb_pre (xP_r hP) hKm hU hW⟩⟩ rfl rfl hl.1 rfl (lv_room (Nat.le_of_ble_eq_true rfl)) dL_law_1022 ⟨show (79 + 12 * k) + 0 ≤ 600000 by omega, show (13150 + 346 * k) + 0 ≤ 7302250 by omega⟩) (fun r2131 hr2131 => ?_)
  refine lv_pop hx hb dL_law_1025 rfl ?_
  refine lv_goto (tgt := 1052) hx hb dL_law_1026 (by decide) ?_
  refine W.widen (k := 79 + 12 * (k + 1)) (n := 13150 + 346 * (k + 1)) (by omega) (by omega) ?_
  exact hT L K T I Q J Im Jm H locs ls ⟨hC, hI.mono (by omega), ⟨pa, ra, σ, hE, hMR, hSK⟩, hP, hD⟩ hS hl
set_option maxHeartbeats 4000000 in
set_option maxRecDepth 100000 in
theorem lw_c23 {p : Program} {e : Env} {s : State} {m : MethodId} {below : List Frame} {meth : Method} {c : Code} (l : Launch) {b Ls : Nat} {xs : Nat → Int32} (C0 : lw_At p s m meth c b Ls xs) {dC : Nat → ClassId} {dI : Nat → Nat → Nat} {cy : Nat → ClassId} {v : Nat → Nat} {N : Nat → Nat} {cz : Nat → ClassId} {w : Nat → Nat} {Lm : List Nat} {Km Nm : Nat → Nat} {Tm : Nat → Nat → Nat} {Qm : Nat → Nat → Option Nat} (hKx : va_K (dC, dI) vwCl (pTy cy) s) (hKm : va_K (dC, dI) vwCl (mTy cz) s) (hN : xN s) (hM : MS w Lm Km Nm Tm Qm) (hLs : Ls ≤ 448) (k : Nat) (hk : 7 * k + 7 ≤ Ls) (hT : ∀ (L : List Nat) (K : Nat → Nat) (T : Nat → Nat → Nat) (I : Nat → Nat → Int32) (Q : Nat → Nat → Option Nat) (J Im Jm : Nat → Nat → Int32) (H : Heap) (locs : List Loc) (ls : Array Slot), lwI dC dI cy v N cz w Lm Km Nm Tm Qm (fun q : Nat => s.heap.size ≤ q) H (k + 1) L K T I Q J Im Jm → va_S (fun q : Nat => s.heap.size ≤ q) s.heap H locs → lv_has ls 4 [(3, .int (nI (7 * k))), (2, .ref (w 0)), (1, .ref (v 0)), (0, .ref b)] → W p l e room_1 s m #[Value.ref b] below meth c H locs (79 + 12 * (k + 1)) (13150 + 346 * (k + 1)) (lw_Z below #[Value.ref b] s) (F0 m 1052 ls [])) (L : List Nat) (K : Nat → Nat) (T : Nat → Nat → Nat) (I : Nat → Nat → Int32) (Q : Nat → Nat → Option Nat) (J Im Jm : Nat → Nat → Int32) (H : Heap) (locs : List Loc) (ls : Array Slot) (h0 : lwI dC dI cy v N cz w Lm Km Nm Tm Qm (fun q : Nat => s.heap.size ≤ q) H k L K T I Q J Im Jm) (hS : va_S (fun q : Nat => s.heap.size ≤ q) s.heap H locs) (hl : lv_has ls 4 [(3, .int (nI (7 * k))), (2, .ref (w 0)), (1, .ref (v 0)), (0, .ref b)]) : W p l e room_1 s m #[Value.ref b] below meth c H locs (79 + 12 * k) (13150 + 346 * k) (lw_Z below #[Value.ref b] s) (F0 m 1029 ls []) := by
  obtain ⟨hx, hb, hr, hml, hown, hts0, hX, hbl, hlocks, hgv⟩ := id C0
  have hown : s.vm.findClass RL = some m.cls := hown
  have hts : ∀ w ∈ wsL_law, w.before #[Value.ref b] s = true := fun w h => hts0 w (wsL_law_in w h)
  have hA : ∀ q : Nat, s.heap.size ≤ q → (fun q : Nat => s.heap.size ≤ q) q := fun _ h => h
  have hbA : ¬ (fun q : Nat => s.heap.size ≤ q) b := Nat.not_le.mpr hbl
  obtain ⟨hC, hI, hSR, hP, hD⟩ := h0
  obtain ⟨pa, ra, σ, hE, hMR, hSK⟩ := hSR
  have hLA : LA (5 * (k : Int)) σ := fun j hj => hMR.ml hj (hI.1 j hj)
  have hB : B5 (σ.1 0 0) := by rw [← hMR.1.1]; exact hI.2.2
  refine lv_aload_n hx hb dL_law_1029 rfl (lv_at hl 2 rfl) ?_
  refine lv_aload_n hx hb dL_law_1030 rfl (lv_at hl 3 rfl) ?_
  refine lv_iload_n hx hb dL_law_1031 rfl (lv_at hl 0 rfl) ?_
  refine lv_iconst (v := 1) hx hb dL_law_1032 (by decide) ?_
  refine lv_iadd hx hb dL_law_1033 ?_
  refine lv_topi (fun v2133 ev2133 => ?_)
  obtain rfl : v2133 = nI (7 * k + 1) := ev2133.trans (nI_add (7 * k) 1)
  refine va_sld hx hb hX hbl hbA hS (nI_in (by omega) (by omega)) dL_law_1034 ?_
  refine W.eq (g2 := F0 m 1035 ls [.int (xs (7 * k + 1)), .ref (v 0)]) (by rw [nI_clamp (by omega)]) ?_
  obtain ⟨j2135, hj2135⟩ := pG_5 (cy := cy) (N := N) (T := T) (I := I) (Q := Q) (J := J) (hC.at 0 (by decide)) (hC.k 0 (by decide) rfl)
  refine vp_callSi (W.runV (As := [.int (xs (7 * k + 1))]) (rest := []) ⟨hx, hb, hml, hown, hts⟩ (g_X5_count l dC dI cy v L K N T I Q J pa ra (kxo σ) σ (5 * (k : Int)) (xs (7 * k + 1)) hE rfl hSK hLA (by omega) hB) (cwV 1 hts gL_law_X5_count rfl rfl rfl (by decide +kernel) ⟨Nat.le_of_ble_eq_true rfl, Nat.le_of_ble_eq_true rfl⟩) ⟨pb_blind, va_recv hKx (xP_l hP) (ci := 5) (q0 := j2135) rfl hj2135, fun U hU hW => ⟨rfl, pb_pre (xP_l hP) hKx hN hU hW⟩⟩ rfl rfl hl.1 rfl (lv_room (Nat.le_of_ble_eq_true rfl)) dL_law_1035 ⟨show (79 + 12 * k) + 0 ≤ 600000 by omega, show (13150 + 346 * k) + 0 ≤ 7302250 by omega⟩) (fun r2134 hr2134 => ?_)
  have hr5 := hr2134
  refine lv_aload_n hx hb dL_law_1038 rfl (lv_at hl 1 rfl) ?_
  refine lv_aload_n hx hb dL_law_1039 rfl (lv_at hl 3 rfl) ?_
  refine lv_iload_n hx hb dL_law_1040 rfl (lv_at hl 0 rfl) ?_
  refine lv_iconst (v := 1) hx hb dL_law_1041 (by decide) ?_
  refine lv_iadd hx hb dL_law_1042 ?_
  refine lv_topi (fun v2136 ev2136 => ?_)
  obtain rfl : v2136 = nI (7 * k + 1) := ev2136.trans (nI_add (7 * k) 1)
  refine va_sld hx hb hX hbl hbA hS (nI_in (by omega) (by omega)) dL_law_1043 ?_
  refine W.eq (g2 := F0 m 1044 ls [.int (xs (7 * k + 1)), .ref (w 0), .int r2134]) (by rw [nI_clamp (by omega)]) ?_
  obtain ⟨j2138, hj2138⟩ := wG_7 (cy := cz) (N := Nm) (T := Tm) (I := Im) (Q := Qm) (J := Jm) (hM.at 0 (by decide)) (hM.k 0 (by decide) rfl)
  refine vp_callSi (W.runV (As := [.int (xs (7 * k + 1))]) (rest := [.int r2134]) ⟨hx, hb, hml, hown, hts⟩ (f_X7_count l dC dI cz w Lm Km Nm Tm Qm Im Jm (xs (7 * k + 1)) σ hM hMR) (cwV 1 hts gL_law_X7_count rfl rfl rfl (by decide +kernel) ⟨Nat.le_of_ble_eq_true rfl, Nat.le_of_ble_eq_true rfl⟩) ⟨mb_blind, va_recv hKm (xP_r hP) (ci := 7) (q0 := j2138) rfl hj2138, fun U hU hW => ⟨rfl, mb_pre (xP_r hP) hKm hU hW⟩⟩ rfl rfl hl.1 rfl (lv_room (Nat.le_of_ble_eq_true rfl)) dL_law_1044 ⟨show (79 + 12 * k) + 0 ≤ 600000 by omega, show (13150 + 346 * k) + 0 ≤ 7302250 by omega⟩) (fun r2137 hr2137 => ?_)
  have hr7 := hr2137
  refine lv_icmp_eq (tgt := 1052) hx hb dL_law_1047 (by decide) (fun c2139 => ?_) (fun c2139 => ?_)
  · refine W.widen (k := 79 + 12 * (k + 1)) (n := 13150 + 346 * (k + 1)) (by omega) (by omega) ?_
    exact hT L K T I Q J Im Jm H locs ls ⟨hC, hI.mono (by omega), ⟨pa, ra, σ, hE, hMR, hSK⟩, hP, hD⟩ hS hl
  · exact absurd (hr5.trans hr7.symm) c2139
