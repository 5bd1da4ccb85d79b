set_option maxHeartbeats 4000000 in
set_option maxRecDepth 100000 in
theorem lw_c0 {p : Program} {e : Env} {s : State} {m : MethodId} {below : List Frame} {meth : Method} {c : Code} (l : Launch) {b Ls : Nat} {xs : Nat → Int32} (C0 : lw_At p s m meth c b Ls xs) {dC : Nat → ClassId} {dI : Nat → Nat → Nat} {cy : Nat → ClassId} {v : Nat → Nat} {N : Nat → Nat} {cz : Nat → ClassId} {w : Nat → Nat} {Lm : List Nat} {Km Nm : Nat → Nat} {Tm : Nat → Nat → Nat} {Qm : Nat → Nat → Option Nat} (hKx : va_K (dC, dI) vwCl (pTy cy) s) (hKm : va_K (dC, dI) vwCl (mTy cz) s) (hN : xN s) (hM : MS w Lm Km Nm Tm Qm) (hLs : Ls ≤ 448) (k : Nat) (hk : 7 * k + 7 ≤ Ls) (hT : ∀ (L : List Nat) (K : Nat → Nat) (T : Nat → Nat → Nat) (I : Nat → Nat → Int32) (Q : Nat → Nat → Option Nat) (J Im Jm : Nat → Nat → Int32) (H : Heap) (locs : List Loc) (ls : Array Slot), lwI dC dI cy v N cz w Lm Km Nm Tm Qm (fun q : Nat => s.heap.size ≤ q) H (k + 1) L K T I Q J Im Jm → va_S (fun q : Nat => s.heap.size ≤ q) s.heap H locs → lv_has ls 4 [(3, .int (nI (7 * k))), (2, .ref (w 0)), (1, .ref (v 0)), (0, .ref b)] → W p l e room_1 s m #[Value.ref b] below meth c H locs (79 + 12 * (k + 1)) (13150 + 346 * (k + 1)) (lw_Z below #[Value.ref b] s) (F0 m 1052 ls [])) (L : List Nat) (K : Nat → Nat) (T : Nat → Nat → Nat) (I : Nat → Nat → Int32) (Q : Nat → Nat → Option Nat) (J Im Jm : Nat → Nat → Int32) (H : Heap) (locs : List Loc) (ls : Array Slot) (h0 : lwI dC dI cy v N cz w Lm Km Nm Tm Qm (fun q : Nat => s.heap.size ≤ q) H k L K T I Q J Im Jm) (hS : va_S (fun q : Nat => s.heap.size ≤ q) s.heap H locs) (hl : lv_has ls 4 [(3, .int (nI (7 * k))), (2, .ref (w 0)), (1, .ref (v 0)), (0, .ref b)]) : W p l e room_1 s m #[Value.ref b] below meth c H locs (79 + 12 * k) (13150 + 346 * k) (lw_Z below #[Value.ref b] s) (F0 m 144 ls []) := by
  obtain ⟨hx, hb, hr, hml, hown, hts0, hX, hbl, hlocks, hgv⟩ := id C0
  have hown : s.vm.findClass RL = some m.cls := hown
  have hts : ∀ w ∈ wsL_law, w.before #[Value.ref b] s = true := fun w h => hts0 w (wsL_law_in w h)
  have hA : ∀ q : Nat, s.heap.size ≤ q → (fun q : Nat => s.heap.size ≤ q) q := fun _ h => h
  have hbA : ¬ (fun q : Nat => s.heap.size ≤ q) b := Nat.not_le.mpr hbl
  obtain ⟨hC, hI, hSR, hP, hD⟩ := h0
  obtain ⟨pa, ra, σ, hE, hMR, hSK⟩ := hSR
  have hLA : LA (5 * (k : Int)) σ := fun j hj => hMR.ml hj (hI.1 j hj)
  have hB : B5 (σ.1 0 0) := by rw [← hMR.1.1]; exact hI.2.2
  refine lv_aload_n hx hb dL_law_144 rfl (lv_at hl 2 rfl) ?_
  refine lv_aload_n hx hb dL_law_145 rfl (lv_at hl 3 rfl) ?_
  refine lv_iload_n hx hb dL_law_146 rfl (lv_at hl 0 rfl) ?_
  refine lv_iconst (v := 1) hx hb dL_law_147 (by decide) ?_
  refine lv_iadd hx hb dL_law_148 ?_
  refine lv_topi (fun v1896 ev1896 => ?_)
  obtain rfl : v1896 = nI (7 * k + 1) := ev1896.trans (nI_add (7 * k) 1)
  refine va_sld hx hb hX hbl hbA hS (nI_in (by omega) (by omega)) dL_law_149 ?_
  refine W.eq (g2 := F0 m 150 ls [.int (xs (7 * k + 1)), .ref (v 0)]) (by rw [nI_clamp (by omega)]) ?_
  refine lv_aload_n hx hb dL_law_150 rfl (lv_at hl 3 rfl) ?_
  refine lv_iload_n hx hb dL_law_151 rfl (lv_at hl 0 rfl) ?_
  refine lv_iconst (v := 2) hx hb dL_law_152 (by decide) ?_
  refine lv_iadd hx hb dL_law_153 ?_
  refine lv_topi (fun v1897 ev1897 => ?_)
  obtain rfl : v1897 = nI (7 * k + 2) := ev1897.trans (nI_add (7 * k) 2)
  refine va_sld hx hb hX hbl hbA hS (nI_in (by omega) (by omega)) dL_law_154 ?_
  refine W.eq (g2 := F0 m 155 ls [.int (xs (7 * k + 2)), .int (xs (7 * k + 1)), .ref (v 0)]) (by rw [nI_clamp (by omega)]) ?_
  refine lv_aload_n hx hb dL_law_155 rfl (lv_at hl 3 rfl) ?_
  refine lv_iload_n hx hb dL_law_156 rfl (lv_at hl 0 rfl) ?_
  refine lv_iconst (v := 3) hx hb dL_law_157 (by decide) ?_
  refine lv_iadd hx hb dL_law_158 ?_
  refine lv_topi (fun v1898 ev1898 => ?_)
  obtain rfl : v1898 = nI (7 * k + 3) := ev1898.trans (nI_add (7 * k) 3)
  refine va_sld hx hb hX hbl hbA hS (nI_in (by omega) (by omega)) dL_law_159 ?_
  refine W.eq (g2 := F0 m 160 ls [.int (xs (7 * k + 3)), .int (xs (7 * k + 2)), .int (xs (7 * k + 1)), .ref (v 0)]) (by rw [nI_clamp (by omega)]) ?_
  obtain ⟨j1900, hj1900⟩ := pG_5 (cy := cy) (N := N) (T := T) (I := I) (Q := Q) (J := J) (hC.at 0 (by decide)) (hC.k 0 (by decide) rfl)
  have hFc := xfree (xD_l hD) hS hA
  refine va_calli (va_runV (As := [.int (xs (7 * k + 1)), .int (xs (7 * k + 2)), .int (xs (7 * k + 3))]) (rest := []) ⟨hx, hb, hml, hown, hts⟩ (g_X5_create l dC dI cy v L K N T I Q J H.size pa ra (kxo σ) σ (5 * (k : Int)) (xs (7 * k + 1)) (xs (7 * k + 2)) (xs (7 * k + 3)) hE rfl hSK hLA (by omega) hB) (cwV 3 hts gL_law_X5_create rfl rfl rfl (by decide +kernel) ⟨Nat.le_of_ble_eq_true rfl, Nat.le_of_ble_eq_true rfl⟩) ⟨pw_blind, va_recv hKx (xP_l hP) (ci := 5) (q0 := j1900) rfl hj1900, fun U hU hW => ⟨rfl, pw_pre (xP_l hP) hKx hN (xD_l hD) hU hW⟩⟩ rfl rfl hl.1 rfl (lv_room (Nat.le_of_ble_eq_true rfl)) dL_law_160 ⟨show (79 + 12 * k) + 12 ≤ 600000 by omega, show (13150 + 346 * k) + 346 ≤ 7302250 by omega⟩) hS (fun q _ h => hFc q h) hFc (fun r1899 d9 t H locs ht hvm hr1899 hB9 hz1 hk1 hS => ?_)
  obtain ⟨L, K, T, I, Q, J⟩ := d9
  obtain ⟨hP1, hK1, hD1⟩ := hB9
  rw [ht] at hP1
  have hPn : va_P (dC, dI) vwCl (va_pl L (pF cy K N T I Q J) ++ va_pl Lm (wF cz Km Nm Tm Im Qm Jm)) H := va_P.app hP1 (xj_keep hP hD hk1)
  have hD : va_D (fun q : Nat => s.heap.size ≤ q) (va_pl L (pF cy K N T I Q J) ++ va_pl Lm (wF cz Km Nm Tm Im Qm Jm)) := xj_D hP hD hD1 hFc
  have hP := hPn
  obtain ⟨⟨pa, ra, hE2⟩, hr5⟩ := hr1899
  have hE2 : REP v pa ra L K N T I Q J (kxo (qCe σ (xs (7 * k + 1)) (xs (7 * k + 2)) (xs (7 * k + 3))).1) (qCe σ (xs (7 * k + 1)) (xs (7 * k + 2)) (xs (7 * k + 3))).1 := hE2
  have hr5 : r1899 = (qCe σ (xs (7 * k + 1)) (xs (7 * k + 2)) (xs (7 * k + 3))).2 := hr5
  have hC := hE2.ct
  refine lv_pop hx hb dL_law_163 rfl ?_
  refine lv_aload_n hx hb dL_law_164 rfl (lv_at hl 1 rfl) ?_
  refine lv_aload_n hx hb dL_law_165 rfl (lv_at hl 3 rfl) ?_
  refine lv_iload_n hx hb dL_law_166 rfl (lv_at hl 0 rfl) ?_
  refine lv_iconst (v := 1) hx hb dL_law_167 (by decide) ?_
  refine lv_iadd hx hb dL_law_168 ?_
  refine lv_topi (fun v1901 ev1901 => ?_)
  obtain rfl : v1901 = nI (7 * k + 1) := ev1901.trans (nI_add (7 * k) 1)
  refine va_sld hx hb hX hbl hbA hS (nI_in (by omega) (by omega)) dL_law_169 ?_
  refine W.eq (g2 := F0 m 170 ls [.int (xs (7 * k + 1)), .ref (w 0)]) (by rw [nI_clamp (by omega)]) ?_
  refine lv_aload_n hx hb dL_law_170 rfl (lv_at hl 3 rfl) ?_
  refine lv_iload_n hx hb dL_law_171 rfl (lv_at hl 0 rfl) ?_
  refine lv_iconst (v := 2) hx hb dL_law_172 (by decide) ?_
  refine lv_iadd hx hb dL_law_173 ?_
  refine lv_topi (fun v1902 ev1902 => ?_)
  obtain rfl : v1902 = nI (7 * k + 2) := ev1902.trans (nI_add (7 * k) 2)
  refine va_sld hx hb hX hbl hbA hS (nI_in (by omega) (by omega)) dL_law_174 ?_
  refine W.eq (g2 := F0 m 175 ls [.int (xs (7 * k + 2)), .int (xs (7 * k + 1)), .ref (w 0)]) (by rw [nI_clamp (by omega)]) ?_
  refine lv_aload_n hx hb dL_law_175 rfl (lv_at hl 3 rfl) ?_
  refine lv_iload_n hx hb dL_law_176 rfl (lv_at hl 0 rfl) ?_
  refine lv_iconst (v := 3) hx hb dL_law_177 (by decide) ?_
  refine lv_iadd hx hb dL_law_178 ?_
  refine lv_topi (fun v1903 ev1903 => ?_)
  obtain rfl : v1903 = nI (7 * k + 3) := ev1903.trans (nI_add (7 * k) 3)
  refine va_sld hx hb hX hbl hbA hS (nI_in (by omega) (by omega)) dL_law_179 ?_
  refine W.eq (g2 := F0 m 180 ls [.int (xs (7 * k + 3)), .int (xs (7 * k + 2)), .int (xs (7 * k + 1)), .ref (w 0)]) (by rw [nI_clamp (by omega)]) ?_
  obtain ⟨j1905, hj1905⟩ := wG_7 (cy := cz) (N := Nm) (T := Tm) (I := Im) (Q := Qm) (J := Jm) (hM.at 0 (by decide)) (hM.k 0 (by decide) rfl)
  have hPs := xswapP hP
  have hDs := xswapD hD
  have hFc := xfree (xD_l hDs) hS hA
  refine va_calli (va_runV (As := [.int (xs (7 * k + 1)), .int (xs (7 * k + 2)), .int (xs (7 * k + 3))]) (rest := []) ⟨hx, hb, hml, hown, hts⟩ (f_X7_create l dC dI cz w Lm Km Nm Tm Qm Im Jm H.size (5 * (k : Int)) (xs (7 * k + 1)) (xs (7 * k + 2)) (xs (7 * k + 3)) σ hM hI (by omega) hMR) (cwV 3 hts gL_law_X7_create rfl rfl rfl (by decide +kernel) ⟨Nat.le_of_ble_eq_true rfl, Nat.le_of_ble_eq_true rfl⟩) ⟨mw_blind, va_recv hKm (xP_r hP) (ci := 7) (q0 := j1905) rfl hj1905, fun U hU hW => ⟨rfl, mw_pre (xP_r hP) hKm (xD_r hD) hU hW⟩⟩ rfl rfl hl.1 rfl (lv_room (Nat.le_of_ble_eq_true rfl)) dL_law_180 ⟨show (79 + 12 * k + 12) + 0 ≤ 600000 by omega, show (13150 + 346 * k + 346) + 0 ≤ 7302250 by omega⟩) hS (fun q _ h => hFc q h) hFc (fun r1904 d9 t H locs ht hvm hr1904 hB9 hz1 hk1 hS => ?_)
  obtain ⟨Im, Jm⟩ := d9
  obtain ⟨hP1, hK1, hD1⟩ := hB9
  rw [ht] at hP1
  have hP : va_P (dC, dI) vwCl (va_pl L (pF cy K N T I Q J) ++ va_pl Lm (wF cz Km Nm Tm Im Qm Jm)) H := va_P.app (xj_keep hPs hDs hk1) hP1
  have hD : va_D (fun q : Nat => s.heap.size ≤ q) (va_pl L (pF cy K N T I Q J) ++ va_pl Lm (wF cz Km Nm Tm Im Qm Jm)) := xswapD (xj_D hPs hDs hD1 hFc)
  have hI : MI w (5 * (k : Int) + 5) Im Jm := hr1904.1
  obtain ⟨hMR2, hr7⟩ := hr1904.2
  have hMR2 : MR w Im Jm (qCe σ (xs (7 * k + 1)) (xs (7 * k + 2)) (xs (7 * k + 3))).1 := hMR2
  have hr7 : r1904 = (qCe σ (xs (7 * k + 1)) (xs (7 * k + 2)) (xs (7 * k + 3))).2 := hr7
  refine lv_pop hx hb dL_law_183 rfl ?_
  refine lv_goto (tgt := 1052) hx hb dL_law_184 (by decide) ?_
  refine W.widen (k := 79 + 12 * (k + 1)) (n := 13150 + 346 * (k + 1)) (by omega) (by omega) ?_
  exact hT L K T I Q J Im Jm H locs ls ⟨hC, hI.mono (by omega), ⟨pa, ra, _, hE2, hMR2, hSK.ce hB (xs (7 * k + 1)) (xs (7 * k + 2)) (xs (7 * k + 3))⟩, hP, hD⟩ hS hl
set_option maxHeartbeats 4000000 in
set_option maxRecDepth 100000 in
theorem lw_c1 {p : Program} {e : Env} {s : State} {m : MethodId} {below : List Frame} {meth : Method} {c : Code} (l : Launch) {b Ls : Nat} {xs : Nat → Int32} (C0 : lw_At p s m meth c b Ls xs) {dC : Nat → ClassId} {dI : Nat → Nat → Nat} {cy : Nat → ClassId} {v : Nat → Nat} {N : Nat → Nat} {cz : Nat → ClassId} {w : Nat → Nat} {Lm : List Nat} {Km Nm : Nat → Nat} {Tm : Nat → Nat → Nat} {Qm : Nat → Nat → Option Nat} (hKx : va_K (dC, dI) vwCl (pTy cy) s) (hKm : va_K (dC, dI) vwCl (mTy cz) s) (hN : xN s) (hM : MS w Lm Km Nm Tm Qm) (hLs : Ls ≤ 448) (k : Nat) (hk : 7 * k + 7 ≤ Ls) (hT : ∀ (L : List Nat) (K : Nat → Nat) (T : Nat → Nat → Nat) (I : Nat → Nat → Int32) (Q : Nat → Nat → Option Nat) (J Im Jm : Nat → Nat → Int32) (H : Heap) (locs : List Loc) (ls : Array Slot), lwI dC dI cy v N cz w Lm Km Nm Tm Qm (fun q : Nat => s.heap.size ≤ q) H (k + 1) L K T I Q J Im Jm → va_S (fun q : Nat => s.heap.size ≤ q) s.heap H locs → lv_has ls 4 [(3, .int (nI (7 * k))), (2, .ref (w 0)), (1, .ref (v 0)), (0, .ref b)] → W p l e room_1 s m #[Value.ref b] below meth c H locs (79 + 12 * (k + 1)) (13150 + 346 * (k + 1)) (lw_Z below #[Value.ref b] s) (F0 m 1052 ls [])) (L : List Nat) (K : Nat → Nat) (T : Nat → Nat → Nat) (I : Nat → Nat → Int32) (Q : Nat → Nat → Option Nat) (J Im Jm : Nat → Nat → Int32) (H : Heap) (locs : List Loc) (ls : Array Slot) (h0 : lwI dC dI cy v N cz w Lm Km Nm Tm Qm (fun q : Nat => s.heap.size ≤ q) H k L K T I Q J Im Jm) (hS : va_S (fun q : Nat => s.heap.size ≤ q) s.heap H locs) (hl : lv_has ls 4 [(3, .int (nI (7 * k))), (2, .ref (w 0)), (1, .ref (v 0)), (0, .ref b)]) : W p l e room_1 s m #[Value.ref b] below meth c H locs (79 + 12 * k) (13150 + 346 * k) (lw_Z below #[Value.ref b] s) (F0 m 187 ls []) := by
  obtain ⟨hx, hb, hr, hml, hown, hts0, hX, hbl, hlocks, hgv⟩ := id C0
  have hown : s.vm.findClass RL = some m.cls := hown
  have hts : ∀ w ∈ wsL_law, w.before #[Value.ref b] s = true := fun w h => hts0 w (wsL_law_in w h)
  have hA : ∀ q : Nat, s.heap.size ≤ q → (fun q : Nat => s.heap.size ≤ q) q := fun _ h => h
  have hbA : ¬ (fun q : Nat => s.heap.size ≤ q) b := Nat.not_le.mpr hbl
  obtain ⟨hC, hI, hSR, hP, hD⟩ := h0
  obtain ⟨pa, ra, σ, hE, hMR, hSK⟩ := hSR
  have hLA : LA (5 * (k : Int)) σ := fun j hj => hMR.ml hj (hI.1 j hj)
  have hB : B5 (σ.1 0 0) := by rw [← hMR.1.1]; exact hI.2.2
  refine lv_aload_n hx hb dL_law_187 rfl (lv_at hl 2 rfl) ?_
  refine lv_aload_n hx hb dL_law_188 rfl (lv_at hl 3 rfl) ?_
  refine lv_iload_n hx hb dL_law_189 rfl (lv_at hl 0 rfl) ?_
  refine lv_iconst (v := 1) hx hb dL_law_190 (by decide) ?_
  refine lv_iadd hx hb dL_law_191 ?_
  refine lv_topi (fun v1906 ev1906 => ?_)
  obtain rfl : v1906 = nI (7 * k + 1) := ev1906.trans (nI_add (7 * k) 1)
  refine va_sld hx hb hX hbl hbA hS (nI_in (by omega) (by omega)) dL_law_192 ?_
  refine W.eq (g2 := F0 m 193 ls [.int (xs (7 * k + 1)), .ref (v 0)]) (by rw [nI_clamp (by omega)]) ?_
  refine lv_aload_n hx hb dL_law_193 rfl (lv_at hl 3 rfl) ?_
  refine lv_iload_n hx hb dL_law_194 rfl (lv_at hl 0 rfl) ?_
  refine lv_iconst (v := 2) hx hb dL_law_195 (by decide) ?_
  refine lv_iadd hx hb dL_law_196 ?_
  refine lv_topi (fun v1907 ev1907 => ?_)
  obtain rfl : v1907 = nI (7 * k + 2) := ev1907.trans (nI_add (7 * k) 2)
  refine va_sld hx hb hX hbl hbA hS (nI_in (by omega) (by omega)) dL_law_197 ?_
  refine W.eq (g2 := F0 m 198 ls [.int (xs (7 * k + 2)), .int (xs (7 * k + 1)), .ref (v 0)]) (by rw [nI_clamp (by omega)]) ?_
  refine lv_if_eq (tgt := 205) hx hb dL_law_198 (by decide) (fun c1908 => ?_) (fun c1908 => ?_)
  · refine lv_iconst (v := 0) hx hb dL_law_205 (by decide) ?_
    obtain ⟨j1910, hj1910⟩ := pG_5 (cy := cy) (N := N) (T := T) (I := I) (Q := Q) (J := J) (hC.at 0 (by decide)) (hC.k 0 (by decide) rfl)
    have hFc := xfree (xD_l hD) hS hA
    refine va_calli (va_runV (As := [.int (xs (7 * k + 1)), .int 0]) (rest := []) ⟨hx, hb, hml, hown, hts⟩ (g_X5_elect l dC dI cy v L K N T I Q J H.size pa ra (kxo σ) σ (5 * (k : Int)) (xs (7 * k + 1)) 0 hE rfl hSK hLA (by omega) hB) (cwV 2 hts gL_law_X5_elect rfl rfl rfl (by decide +kernel) ⟨Nat.le_of_ble_eq_true rfl, Nat.le_of_ble_eq_true rfl⟩) ⟨pw_blind, va_recv hKx (xP_l hP) (ci := 5) (q0 := j1910) rfl hj1910, fun U hU hW => ⟨rfl, pw_pre (xP_l hP) hKx hN (xD_l hD) hU hW⟩⟩ rfl rfl hl.1 rfl (lv_room (Nat.le_of_ble_eq_true rfl)) dL_law_206 ⟨show (79 + 12 * k) + 0 ≤ 600000 by omega, show (13150 + 346 * k) + 0 ≤ 7302250 by omega⟩) hS (fun q _ h => hFc q h) hFc (fun r1909 d9 t H locs ht hvm hr1909 hB9 hz1 hk1 hS => ?_)
    obtain ⟨I, Q, J⟩ := d9
    obtain ⟨hP1, hK1, hD1⟩ := hB9
    rw [ht] at hP1
    have hPn : va_P (dC, dI) vwCl (va_pl L (pF cy K N T I Q J) ++ va_pl Lm (wF cz Km Nm Tm Im Qm Jm)) H := va_P.app hP1 (xj_keep hP hD hk1)
    have hD : va_D (fun q : Nat => s.heap.size ≤ q) (va_pl L (pF cy K N T I Q J) ++ va_pl Lm (wF cz Km Nm Tm Im Qm Jm)) := xj_D hP hD hD1 hFc
    have hP := hPn
    obtain ⟨hE2, hr5⟩ := hr1909
    have hE2 : REP v pa ra L K N T I Q J (kxo (qEl σ (xs (7 * k + 1)) 0).1) (qEl σ (xs (7 * k + 1)) 0).1 := hE2
    have hr5 : r1909 = (qEl σ (xs (7 * k + 1)) 0).2 := hr5
    have hC := hE2.ct
    refine lv_pop hx hb dL_law_209 rfl ?_
    refine lv_aload_n hx hb dL_law_210 rfl (lv_at hl 1 rfl) ?_
    refine lv_aload_n hx hb dL_law_211 rfl (lv_at hl 3 rfl) ?_
    refine lv_iload_n hx hb dL_law_212 rfl (lv_at hl 0 rfl) ?_
    refine lv_iconst (v := 1) hx hb dL_law_213 (by decide) ?_
    refine lv_iadd hx hb dL_law_214 ?_
    refine lv_topi (fun v1911 ev1911 => ?_)
    obtain rfl : v1911 = nI (7 * k + 1) := ev1911.trans (nI_add (7 * k) 1)
    refine va_sld hx hb hX hbl hbA hS (nI_in (by omega) (by omega)) dL_law_215 ?_
    refine W.eq (g2 := F0 m 216 ls [.int (xs (7 * k + 1)), .ref (w 0)]) (by rw [nI_clamp (by omega)]) ?_
    refine lv_aload_n hx hb dL_law_216 rfl (lv_at hl 3 rfl) ?_
    refine lv_iload_n hx hb dL_law_217 rfl (lv_at hl 0 rfl) ?_
    refine lv_iconst (v := 2) hx hb dL_law_218 (by decide) ?_
    refine lv_iadd hx hb dL_law_219 ?_
    refine lv_topi (fun v1912 ev1912 => ?_)
    obtain rfl : v1912 = nI (7 * k + 2) := ev1912.trans (nI_add (7 * k) 2)
    refine va_sld hx hb hX hbl hbA hS (nI_in (by omega) (by omega)) dL_law_220 ?_
    refine W.eq (g2 := F0 m 221 ls [.int (xs (7 * k + 2)), .int (xs (7 * k + 1)), .ref (w 0)]) (by rw [nI_clamp (by omega)]) ?_
    refine lv_if_eq (tgt := 228) hx hb dL_law_221 (by decide) (fun c1913 => ?_) (fun c1913 => ?_)
    rotate_left
    · exact absurd c1908 c1913
    refine lv_iconst (v := 0) hx hb dL_law_228 (by decide) ?_
    obtain ⟨j1915, hj1915⟩ := wG_7 (cy := cz) (N := Nm) (T := Tm) (I := Im) (Q := Qm) (J := Jm) (hM.at 0 (by decide)) (hM.k 0 (by decide) rfl)
    have hPs := xswapP hP
    have hDs := xswapD hD
    have hFc := xfree (xD_l hDs) hS hA
    refine va_calli (va_runV (As := [.int (xs (7 * k + 1)), .int 0]) (rest := []) ⟨hx, hb, hml, hown, hts⟩ (f_X7_elect l dC dI cz w Lm Km Nm Tm Qm Im Jm H.size (5 * (k : Int)) (xs (7 * k + 1)) 0 σ hM hI (by omega) hMR) (cwV 2 hts gL_law_X7_elect rfl rfl rfl (by decide +kernel) ⟨Nat.le_of_ble_eq_true rfl, Nat.le_of_ble_eq_true rfl⟩) ⟨mw_blind, va_recv hKm (xP_r hP) (ci := 7) (q0 := j1915) rfl hj1915, fun U hU hW => ⟨rfl, mw_pre (xP_r hP) hKm (xD_r hD) hU hW⟩⟩ rfl rfl hl.1 rfl (lv_room (Nat.le_of_ble_eq_true rfl)) dL_law_229 ⟨show (79 + 12 * k + 0) + 0 ≤ 600000 by omega, show (13150 + 346 * k + 0) + 0 ≤ 7302250 by omega⟩) hS (fun q _ h => hFc q h) hFc (fun r1914 d9 t H locs ht hvm hr1914 hB9 hz1 hk1 hS => ?_)
    obtain ⟨Im, Jm⟩ := d9
    obtain ⟨hP1, hK1, hD1⟩ := hB9
    rw [ht] at hP1
    have hP : va_P (dC, dI) vwCl (va_pl L (pF cy K N T I Q J) ++ va_pl Lm (wF cz Km Nm Tm Im Qm Jm)) H := va_P.app (xj_keep hPs hDs hk1) hP1
    have hD : va_D (fun q : Nat => s.heap.size ≤ q) (va_pl L (pF cy K N T I Q J) ++ va_pl Lm (wF cz Km Nm Tm Im Qm Jm)) := xswapD (xj_D hPs hDs hD1 hFc)
    have hI : MI w (5 * (k : Int) + 5) Im Jm := hr1914.1
    obtain ⟨hMR2, hr7⟩ := hr1914.2
    have hMR2 : MR w Im Jm (qEl σ (xs (7 * k + 1)) 0).1 := hMR2
    have hr7 : r1914 = (qEl σ (xs (7 * k + 1)) 0).2 := hr7
    refine lv_pop hx hb dL_law_232 rfl ?_
    refine lv_goto (tgt := 1052) hx hb dL_law_233 (by decide) ?_
    refine W.widen (k := 79 + 12 * (k + 1)) (n := 13150 + 346 * (k + 1)) (by omega) (by omega) ?_
    exact hT L K T I Q J Im Jm H locs ls ⟨hC, hI.mono (by omega), ⟨pa, ra, _, hE2, hMR2, hSK.el (xs (7 * k + 1)) 0⟩, hP, hD⟩ hS hl
  · refine lv_iconst (v := 1) hx hb dL_law_201 (by decide) ?_
    refine lv_goto (tgt := 206) hx hb dL_law_202 (by decide) ?_
    obtain ⟨j1917, hj1917⟩ := pG_5 (cy := cy) (N := N) (T := T) (I := I) (Q := Q) (J := J) (hC.at 0 (by decide)) (hC.k 0 (by decide) rfl)
    have hFc := xfree (xD_l hD) hS hA
    refine va_calli (va_runV (As := [.int (xs (7 * k + 1)), .int 1]) (rest := []) ⟨hx, hb, hml, hown, hts⟩ (g_X5_elect l dC dI cy v L K N T I Q J H.size pa ra (kxo σ) σ (5 * (k : Int)) (xs (7 * k + 1)) 1 hE rfl hSK hLA (by omega) hB) (cwV 2 hts gL_law_X5_elect rfl rfl rfl (by decide +kernel) ⟨Nat.le_of_ble_eq_true rfl, Nat.le_of_ble_eq_true rfl⟩) ⟨pw_blind, va_recv hKx (xP_l hP) (ci := 5) (q0 := j1917) rfl hj1917, fun U hU hW => ⟨rfl, pw_pre (xP_l hP) hKx hN (xD_l hD) hU hW⟩⟩ rfl rfl hl.1 rfl (lv_room (Nat.le_of_ble_eq_true rfl)) dL_law_206 ⟨show (79 + 12 * k) + 0 ≤ 600000 by omega, show (13150 + 346 * k) + 0 ≤ 7302250 by omega⟩) hS (fun q _ h => hFc q h) hFc (fun r1916 d9 t H locs ht hvm hr1916 hB9 hz1 hk1 hS => ?_)
    obtain ⟨I, Q, J⟩ := d9
    obtain ⟨hP1, hK1, hD1⟩ := hB9
    rw [ht] at hP1
    have hPn : va_P (dC, dI) vwCl (va_pl L (pF cy K N T I Q J) ++ va_pl Lm (wF cz Km Nm Tm Im Qm Jm)) H := va_P.app hP1 (xj_keep hP hD hk1)
    have hD : va_D (fun q : Nat => s.heap.size ≤ q) (va_pl L (pF cy K N T I Q J) ++ va_pl Lm (wF cz Km Nm Tm Im Qm Jm)) := xj_D hP hD hD1 hFc
    have hP := hPn
    obtain ⟨hE2, hr5⟩ := hr1916
    have hE2 : REP v pa ra L K N T I Q J (kxo (qEl σ (xs (7 * k + 1)) 1).1) (qEl σ (xs (7 * k + 1)) 1).1 := hE2
    have hr5 : r1916 = (qEl σ (xs (7 * k + 1)) 1).2 := hr5
    have hC := hE2.ct
    refine lv_pop hx hb dL_law_209 rfl ?_
    refine lv_aload_n hx hb dL_law_210 rfl (lv_at hl 1 rfl) ?_
    refine lv_aload_n hx hb dL_law_211 rfl (lv_at hl 3 rfl) ?_
    refine lv_iload_n hx hb dL_law_212 rfl (lv_at hl 0 rfl) ?_
    refine lv_iconst (v := 1) hx hb dL_law_213 (by decide) ?_
    refine lv_iadd hx hb dL_law_214 ?_
    refine lv_topi (fun v1918 ev1918 => ?_)
    obtain rfl : v1918 = nI (7 * k + 1) := ev1918.trans (nI_add (7 * k) 1)
    refine va_sld hx hb hX hbl hbA hS (nI_in (by omega) (by omega)) dL_law_215 ?_
    refine W.eq (g2 := F0 m 216 ls [.int (xs (7 * k + 1)), .ref (w 0)]) (by rw [nI_clamp (by omega)]) ?_
    refine lv_aload_n hx hb dL_law_216 rfl (lv_at hl 3 rfl) ?_
    refine lv_iload_n hx hb dL_law_217 rfl (lv_at hl 0 rfl) ?_
    refine lv_iconst (v := 2) hx hb dL_law_218 (by decide) ?_
    refine lv_iadd hx hb dL_law_219 ?_
    refine lv_topi (fun v1919 ev1919 => ?_)
    obtain rfl : v1919 = nI (7 * k + 2) := ev1919.trans (nI_add (7 * k) 2)
    refine va_sld hx hb hX hbl hbA hS (nI_in (by omega) (by omega)) dL_law_220 ?_
    refine W.eq (g2 := F0 m 221 ls [.int (xs (7 * k + 2)), .int (xs (7 * k + 1)), .ref (w 0)]) (by rw [nI_clamp (by omega)]) ?_
    refine lv_if_eq (tgt := 228) hx hb dL_law_221 (by decide) (fun c1920 => ?_) (fun c1920 => ?_)
    · exact absurd c1920 c1908
    refine lv_iconst (v := 1) hx hb dL_law_224 (by decide) ?_
    refine lv_goto (tgt := 229) hx hb dL_law_225 (by decide) ?_
    obtain ⟨j1922, hj1922⟩ := wG_7 (cy := cz) (N := Nm) (T := Tm) (I := Im) (Q := Qm) (J := Jm) (hM.at 0 (by decide)) (hM.k 0 (by decide) rfl)
    have hPs := xswapP hP
    have hDs := xswapD hD
    have hFc := xfree (xD_l hDs) hS hA
    refine va_calli (va_runV (As := [.int (xs (7 * k + 1)), .int 1]) (rest := []) ⟨hx, hb, hml, hown, hts⟩ (f_X7_elect l dC dI cz w Lm Km Nm Tm Qm Im Jm H.size (5 * (k : Int)) (xs (7 * k + 1)) 1 σ hM hI (by omega) hMR) (cwV 2 hts gL_law_X7_elect rfl rfl rfl (by decide +kernel) ⟨Nat.le_of_ble_eq_true rfl, Nat.le_of_ble_eq_true rfl⟩) ⟨mw_blind, va_recv hKm (xP_r hP) (ci := 7) (q0 := j1922) rfl hj1922, fun U hU hW => ⟨rfl, mw_pre (xP_r hP) hKm (xD_r hD) hU hW⟩⟩ rfl rfl hl.1 rfl (lv_room (Nat.le_of_ble_eq_true rfl)) dL_law_229 ⟨show (79 + 12 * k + 0) + 0 ≤ 600000 by omega, show (13150 + 346 * k + 0) + 0 ≤ 7302250 by omega⟩) hS (fun q _ h => hFc q h) hFc (fun r1921 d9 t H locs ht hvm hr1921 hB9 hz1 hk1 hS => ?_)
    obtain ⟨Im, Jm⟩ := d9
    obtain ⟨hP1, hK1, hD1⟩ := hB9
    rw [ht] at hP1
    have hP : va_P (dC, dI) vwCl (va_pl L (pF cy K N T I Q J) ++ va_pl Lm (wF cz Km Nm Tm Im Qm Jm)) H := va_P.app (xj_keep hPs hDs hk1) hP1
    have hD : va_D (fun q : Nat => s.heap.size ≤ q) (va_pl L (pF cy K N T I Q J) ++ va_pl Lm (wF cz Km Nm Tm Im Qm Jm)) := xswapD (xj_D hPs hDs hD1 hFc)
    have hI : MI w (5 * (k : Int) + 5) Im Jm := hr1921.1
    obtain ⟨hMR2, hr7⟩ := hr1921.2
    have hMR2 : MR w Im Jm (qEl σ (xs (7 * k + 1)) 1).1 := hMR2
    have hr7 : r1921 = (qEl σ (xs (7 * k + 1)) 1).2 := hr7
    refine lv_pop hx hb dL_law_232 rfl ?_
    refine lv_goto (tgt := 1052) hx hb dL_law_233 (by decide) ?_
    refine W.widen (k := 79 + 12 * (k + 1)) (n := 13150 + 346 * (k + 1)) (by omega) (by omega) ?_
    exact hT L K T I Q J Im Jm H locs ls ⟨hC, hI.mono (by omega), ⟨pa, ra, _, hE2, hMR2, hSK.el (xs (7 * k + 1)) 1⟩, hP, hD⟩ hS hl
set_option maxHeartbeats 4000000 in
set_option maxRecDepth 100000 in
theorem lw_c2 {p : Program} {e : Env} {s : State} {m : MethodId} {below : List Frame} {meth : Method} {c : Code} (l : Launch) {b Ls : Nat} {xs : Nat → Int32} (C0 : lw_At p s m meth c b Ls xs) {dC : Nat → ClassId} {dI : Nat → Nat → Nat} {cy : Nat → ClassId} {v : Nat → Nat} {N : Nat → Nat} {cz : Nat → ClassId} {w : Nat → Nat} {Lm : List Nat} {Km Nm : Nat → Nat} {Tm : Nat → Nat → Nat} {Qm : Nat → Nat → Option Nat} (hKx : va_K (dC, dI) vwCl (pTy cy) s) (hKm : va_K (dC, dI) vwCl (mTy cz) s) (hN : xN s) (hM : MS w Lm Km Nm Tm Qm) (hLs : Ls ≤ 448) (k : Nat) (hk : 7 * k + 7 ≤ Ls) (hT : ∀ (L : List Nat) (K : Nat → Nat) (T : Nat → Nat → Nat) (I : Nat → Nat → Int32) (Q : Nat → Nat → Option Nat) (J Im Jm : Nat → Nat → Int32) (H : Heap) (locs : List Loc) (ls : Array Slot), lwI dC dI cy v N cz w Lm Km Nm Tm Qm (fun q : Nat => s.heap.size ≤ q) H (k + 1) L K T I Q J Im Jm → va_S (fun q : Nat => s.heap.size ≤ q) s.heap H locs → lv_has ls 4 [(3, .int (nI (7 * k))), (2, .ref (w 0)), (1, .ref (v 0)), (0, .ref b)] → W p l e room_1 s m #[Value.ref b] below meth c H locs (79 + 12 * (k + 1)) (13150 + 346 * (k + 1)) (lw_Z below #[Value.ref b] s) (F0 m 1052 ls [])) (L : List Nat) (K : Nat → Nat) (T : Nat → Nat → Nat) (I : Nat → Nat → Int32) (Q : Nat → Nat → Option Nat) (J Im Jm : Nat → Nat → Int32) (H : Heap) (locs : List Loc) (ls : Array Slot) (h0 : lwI dC dI cy v N cz w Lm Km Nm Tm Qm (fun q : Nat => s.heap.size ≤ q) H k L K T I Q J Im Jm) (hS : va_S (fun q : Nat => s.heap.size ≤ q) s.heap H locs) (hl : lv_has ls 4 [(3, .int (nI (7 * k))), (2, .ref (w 0)), (1, .ref (v 0)), (0, .ref b)]) : W p l e room_1 s m #[Value.ref b] below meth c H locs (79 + 12 * k) (13150 + 346 * k) (lw_Z below #[Value.ref b] s) (F0 m 236 ls []) := by
  obtain ⟨hx, hb, hr, hml, hown, hts0, hX, hbl, hlocks, hgv⟩ := id C0
  have hown : s.vm.findClass RL = some m.cls := hown
  have hts : ∀ w ∈ wsL_law, w.before #[Value.ref b] s = true := fun w h => hts0 w (wsL_law_in w h)
  have hA : ∀ q : Nat, s.heap.size ≤ q → (fun q : Nat => s.heap.size ≤ q) q := fun _ h => h
  have hbA : ¬ (fun q : Nat => s.heap.size ≤ q) b := Nat.not_le.mpr hbl
  obtain ⟨hC, hI, hSR, hP, hD⟩ := h0
  obtain ⟨pa, ra, σ, hE, hMR, hSK⟩ := hSR
  have hLA : LA (5 * (k : Int)) σ := fun j hj => hMR.ml hj (hI.1 j hj)
  have hB : B5 (σ.1 0 0) := by rw [← hMR.1.1]; exact hI.2.2
  refine lv_aload_n hx hb dL_law_236 rfl (lv_at hl 2 rfl) ?_
  refine lv_aload_n hx hb dL_law_237 rfl (lv_at hl 3 rfl) ?_
  refine lv_iload_n hx hb dL_law_238 rfl (lv_at hl 0 rfl) ?_
  refine lv_iconst (v := 1) hx hb dL_law_239 (by decide) ?_
  refine lv_iadd hx hb dL_law_240 ?_
  refine lv_topi (fun v1923 ev1923 => ?_)
  obtain rfl : v1923 = nI (7 * k + 1) := ev1923.trans (nI_add (7 * k) 1)
  refine va_sld hx hb hX hbl hbA hS (nI_in (by omega) (by omega)) dL_law_241 ?_
  refine W.eq (g2 := F0 m 242 ls [.int (xs (7 * k + 1)), .ref (v 0)]) (by rw [nI_clamp (by omega)]) ?_
  obtain ⟨j1925, hj1925⟩ := pG_5 (cy := cy) (N := N) (T := T) (I := I) (Q := Q) (J := J) (hC.at 0 (by decide)) (hC.k 0 (by decide) rfl)
  have hFc := xfree (xD_l hD) hS hA
  refine va_calli (va_runV (As := [.int (xs (7 * k + 1))]) (rest := []) ⟨hx, hb, hml, hown, hts⟩ (g_X5_register l dC dI cy v L K N T I Q J H.size pa ra (kxo σ) σ (5 * (k : Int)) (xs (7 * k + 1)) hE rfl hSK hLA (by omega) hB) (cwV 1 hts gL_law_X5_register rfl rfl rfl (by decide +kernel) ⟨Nat.le_of_ble_eq_true rfl, Nat.le_of_ble_eq_true rfl⟩) ⟨pw_blind, va_recv hKx (xP_l hP) (ci := 5) (q0 := j1925) rfl hj1925, fun U hU hW => ⟨rfl, pw_pre (xP_l hP) hKx hN (xD_l hD) hU hW⟩⟩ rfl rfl hl.1 rfl (lv_room (Nat.le_of_ble_eq_true rfl)) dL_law_242 ⟨show (79 + 12 * k) + 0 ≤ 600000 by omega, show (13150 + 346 * k) + 0 ≤ 7302250 by omega⟩) hS (fun q _ h => hFc q h) hFc (fun r1924 d9 t H locs ht hvm hr1924 hB9 hz1 hk1 hS => ?_)
  obtain ⟨I, Q, J⟩ := d9
  obtain ⟨hP1, hK1, hD1⟩ := hB9
  rw [ht] at hP1
  have hPn : va_P (dC, dI) vwCl (va_pl L (pF cy K N T I Q J) ++ va_pl Lm (wF cz Km Nm Tm Im Qm Jm)) H := va_P.app hP1 (xj_keep hP hD hk1)
  have hD : va_D (fun q : Nat => s.heap.size ≤ q) (va_pl L (pF cy K N T I Q J) ++ va_pl Lm (wF cz Km Nm Tm Im Qm Jm)) := xj_D hP hD hD1 hFc
  have hP := hPn
  obtain ⟨hE2, hr5⟩ := hr1924
  have hE2 : REP v pa ra L K N T I Q J (kxo (qRg σ (xs (7 * k + 1))).1) (qRg σ (xs (7 * k + 1))).1 := hE2
  have hr5 : r1924 = (qRg σ (xs (7 * k + 1))).2 := hr5
  have hC := hE2.ct
  refine lv_pop hx hb dL_law_245 rfl ?_
  refine lv_aload_n hx hb dL_law_246 rfl (lv_at hl 1 rfl) ?_
  refine lv_aload_n hx hb dL_law_247 rfl (lv_at hl 3 rfl) ?_
  refine lv_iload_n hx hb dL_law_248 rfl (lv_at hl 0 rfl) ?_
  refine lv_iconst (v := 1) hx hb dL_law_249 (by decide) ?_
  refine lv_iadd hx hb dL_law_250 ?_
  refine lv_topi (fun v1926 ev1926 => ?_)
  obtain rfl : v1926 = nI (7 * k + 1) := ev1926.trans (nI_add (7 * k) 1)
  refine va_sld hx hb hX hbl hbA hS (nI_in (by omega) (by omega)) dL_law_251 ?_
  refine W.eq (g2 := F0 m 252 ls [.int (xs (7 * k + 1)), .ref (w 0)]) (by rw [nI_clamp (by omega)]) ?_
  obtain ⟨j1928, hj1928⟩ := wG_7 (cy := cz) (N := Nm) (T := Tm) (I := Im) (Q := Qm) (J := Jm) (hM.at 0 (by decide)) (hM.k 0 (by decide) rfl)
  have hPs := xswapP hP
  have hDs := xswapD hD
  have hFc := xfree (xD_l hDs) hS hA
  refine va_calli (va_runV (As := [.int (xs (7 * k + 1))]) (rest := []) ⟨hx, hb, hml, hown, hts⟩ (f_X7_register l dC dI cz w Lm Km Nm Tm Qm Im Jm H.size (5 * (k : Int)) (xs (7 * k + 1)) σ hM hI (by omega) hMR) (cwV 1 hts gL_law_X7_register rfl rfl rfl (by decide +kernel) ⟨Nat.le_of_ble_eq_true rfl, Nat.le_of_ble_eq_true rfl⟩) ⟨mw_blind, va_recv hKm (xP_r hP) (ci := 7) (q0 := j1928) rfl hj1928, fun U hU hW => ⟨rfl, mw_pre (xP_r hP) hKm (xD_r hD) hU hW⟩⟩ rfl rfl hl.1 rfl (lv_room (Nat.le_of_ble_eq_true rfl)) dL_law_252 ⟨show (79 + 12 * k + 0) + 0 ≤ 600000 by omega, show (13150 + 346 * k + 0) + 0 ≤ 7302250 by omega⟩) hS (fun q _ h => hFc q h) hFc (fun r1927 d9 t H locs ht hvm hr1927 hB9 hz1 hk1 hS => ?_)
  obtain ⟨Im, Jm⟩ := d9
  obtain ⟨hP1, hK1, hD1⟩ := hB9
  rw [ht] at hP1
  have hP : va_P (dC, dI) vwCl (va_pl L (pF cy K N T I Q J) ++ va_pl Lm (wF cz Km Nm Tm Im Qm Jm)) H := va_P.app (xj_keep hPs hDs hk1) hP1
  have hD : va_D (fun q : Nat => s.heap.size ≤ q) (va_pl L (pF cy K N T I Q J) ++ va_pl Lm (wF cz Km Nm Tm Im Qm Jm)) := xswapD (xj_D hPs hDs hD1 hFc)
  have hI : MI w (5 * (k : Int) + 5) Im Jm := hr1927.1
  obtain ⟨hMR2, hr7⟩ := hr1927.2
  have hMR2 : MR w Im Jm (qRg σ (xs (7 * k + 1))).1 := hMR2
  have hr7 : r1927 = (qRg σ (xs (7 * k + 1))).2 := hr7
  refine lv_pop hx hb dL_law_255 rfl ?_
  refine lv_goto (tgt := 1052) hx hb dL_law_256 (by decide) ?_
  refine W.widen (k := 79 + 12 * (k + 1)) (n := 13150 + 346 * (k + 1)) (by omega) (by omega) ?_
  exact hT L K T I Q J Im Jm H locs ls ⟨hC, hI.mono (by omega), ⟨pa, ra, _, hE2, hMR2, hSK.rg (xs (7 * k + 1))⟩, hP, hD⟩ hS hl
set_option maxHeartbeats 4000000 in
set_option maxRecDepth 100000 in
theorem lw_c3 {p : Program} {e : Env} {s : State} {m : MethodId} {below : List Frame} {meth : Method} {c : Code} (l : Launch) {b Ls : Nat} {xs : Nat → Int32} (C0 : lw_At p s m meth c b Ls xs) {dC : Nat → ClassId} {dI : Nat → Nat → Nat} {cy : Nat → ClassId} {v : Nat → Nat} {N : Nat → Nat} {cz : Nat → ClassId} {w : Nat → Nat} {Lm : List Nat} {Km Nm : Nat → Nat} {Tm : Nat → Nat → Nat} {Qm : Nat → Nat → Option Nat} (hKx : va_K (dC, dI) vwCl (pTy cy) s) (hKm : va_K (dC, dI) vwCl (mTy cz) s) (hN : xN s) (hM : MS w Lm Km Nm Tm Qm) (hLs : Ls ≤ 448) (k : Nat) (hk : 7 * k + 7 ≤ Ls) (hT : ∀ (L : List Nat) (K : Nat → Nat) (T : Nat → Nat → Nat) (I : Nat → Nat → Int32) (Q : Nat → Nat → Option Nat) (J Im Jm : Nat → Nat → Int32) (H : Heap) (locs : List Loc) (ls : Array Slot), lwI dC dI cy v N cz w Lm Km Nm Tm Qm (fun q : Nat => s.heap.size ≤ q) H (k + 1) L K T I Q J Im Jm → va_S (fun q : Nat => s.heap.size ≤ q) s.heap H locs → lv_has ls 4 [(3, .int (nI (7 * k))), (2, .ref (w 0)), (1, .ref (v 0)), (0, .ref b)] → W p l e room_1 s m #[Value.ref b] below meth c H locs (79 + 12 * (k + 1)) (13150 + 346 * (k + 1)) (lw_Z below #[Value.ref b] s) (F0 m 1052 ls [])) (L : List Nat) (K : Nat → Nat) (T : Nat → Nat → Nat) (I : Nat → Nat → Int32) (Q : Nat → Nat → Option Nat) (J Im Jm : Nat → Nat → Int32) (H : Heap) (locs : List Loc) (ls : Array Slot) (h0 : lwI dC dI cy v N cz w Lm Km Nm Tm Qm (fun q : Nat => s.heap.size ≤ q) H k L K T I Q J Im Jm) (hS : va_S (fun q : Nat => s.heap.size ≤ q) s.heap H locs) (hl : lv_has ls 4 [(3, .int (nI (7 * k))), (2, .ref (w 0)), (1, .ref (v 0)), (0, .ref b)]) : W p l e room_1 s m #[Value.ref b] below meth c H locs (79 + 12 * k) (13150 + 346 * k) (lw_Z below #[Value.ref b] s) (F0 m 259 ls []) := by
  obtain ⟨hx, hb, hr, hml, hown, hts0, hX, hbl, hlocks, hgv⟩ := id C0
  have hown : s.vm.findClass RL = some m.cls := hown
  have hts : ∀ w ∈ wsL_law, w.before #[Value.ref b] s = true := fun w h => hts0 w (wsL_law_in w h)
  have hA : ∀ q : Nat, s.heap.size ≤ q → (fun q : Nat => s.heap.size ≤ q) q := fun _ h => h
  have hbA : ¬ (fun q : Nat => s.heap.size ≤ q) b := Nat.not_le.mpr hbl
  obtain ⟨hC, hI, hSR, hP, hD⟩ := h0
  obtain ⟨pa, ra, σ, hE, hMR, hSK⟩ := hSR
  have hLA : LA (5 * (k : Int)) σ := fun j hj => hMR.ml hj (hI.1 j hj)
  have hB : B5 (σ.1 0 0) := by rw [← hMR.1.1]; exact hI.2.2
  refine lv_aload_n hx hb dL_law_259 rfl (lv_at hl 2 rfl) ?_
  refine lv_aload_n hx hb dL_law_260 rfl (lv_at hl 3 rfl) ?_
  refine lv_iload_n hx hb dL_law_261 rfl (lv_at hl 0 rfl) ?_
  refine lv_iconst (v := 1) hx hb dL_law_262 (by decide) ?_
  refine lv_iadd hx hb dL_law_263 ?_
  refine lv_topi (fun v1929 ev1929 => ?_)
  obtain rfl : v1929 = nI (7 * k + 1) := ev1929.trans (nI_add (7 * k) 1)
  refine va_sld hx hb hX hbl hbA hS (nI_in (by omega) (by omega)) dL_law_264 ?_
  refine W.eq (g2 := F0 m 265 ls [.int (xs (7 * k + 1)), .ref (v 0)]) (by rw [nI_clamp (by omega)]) ?_
  refine lv_aload_n hx hb dL_law_265 rfl (lv_at hl 3 rfl) ?_
  refine lv_iload_n hx hb dL_law_266 rfl (lv_at hl 0 rfl) ?_
  refine lv_iconst (v := 2) hx hb dL_law_267 (by decide) ?_
  refine lv_iadd hx hb dL_law_268 ?_
  refine lv_topi (fun v1930 ev1930 => ?_)
  obtain rfl : v1930 = nI (7 * k + 2) := ev1930.trans (nI_add (7 * k) 2)
  refine va_sld hx hb hX hbl hbA hS (nI_in (by omega) (by omega)) dL_law_269 ?_
  refine W.eq (g2 := F0 m 270 ls [.int (xs (7 * k + 2)), .int (xs (7 * k + 1)), .ref (v 0)]) (by rw [nI_clamp (by omega)]) ?_
  refine lv_aload_n hx hb dL_law_270 rfl (lv_at hl 3 rfl) ?_
  refine lv_iload_n hx hb dL_law_271 rfl (lv_at hl 0 rfl) ?_
  refine lv_iconst (v := 3) hx hb dL_law_272 (by decide) ?_
  refine lv_iadd hx hb dL_law_273 ?_
  refine lv_topi (fun v1931 ev1931 => ?_)
  obtain rfl : v1931 = nI (7 * k + 3) := ev1931.trans (nI_add (7 * k) 3)
  refine va_sld hx hb hX hbl hbA hS (nI_in (by omega) (by omega)) dL_law_274 ?_
  refine W.eq (g2 := F0 m 275 ls [.int (xs (7 * k + 3)), .int (xs (7 * k + 2)), .int (xs (7 * k + 1)), .ref (v 0)]) (by rw [nI_clamp (by omega)]) ?_
  refine lv_aload_n hx hb dL_law_275 rfl (lv_at hl 3 rfl) ?_
  refine lv_iload_n hx hb dL_law_276 rfl (lv_at hl 0 rfl) ?_
  refine lv_iconst (v := 4) hx hb dL_law_277 (by decide) ?_
  refine lv_iadd hx hb dL_law_278 ?_
  refine lv_topi (fun v1932 ev1932 => ?_)
  obtain rfl : v1932 = nI (7 * k + 4) := ev1932.trans (nI_add (7 * k) 4)
  refine va_sld hx hb hX hbl hbA hS (nI_in (by omega) (by omega)) dL_law_279 ?_
  refine W.eq (g2 := F0 m 280 ls [.int (xs (7 * k + 4)), .int (xs (7 * k + 3)), .int (xs (7 * k + 2)), .int (xs (7 * k + 1)), .ref (v 0)]) (by rw [nI_clamp (by omega)]) ?_
  refine lv_aload_n hx hb dL_law_280 rfl (lv_at hl 3 rfl) ?_
  refine lv_iload_n hx hb dL_law_281 rfl (lv_at hl 0 rfl) ?_
  refine lv_iconst (v := 5) hx hb dL_law_282 (by decide) ?_
  refine lv_iadd hx hb dL_law_283 ?_
  refine lv_topi (fun v1933 ev1933 => ?_)
  obtain rfl : v1933 = nI (7 * k + 5) := ev1933.trans (nI_add (7 * k) 5)
  refine va_sld hx hb hX hbl hbA hS (nI_in (by omega) (by omega)) dL_law_284 ?_
  refine W.eq (g2 := F0 m 285 ls [.int (xs (7 * k + 5)), .int (xs (7 * k + 4)), .int (xs (7 * k + 3)), .int (xs (7 * k + 2)), .int (xs (7 * k + 1)), .ref (v 0)]) (by rw [nI_clamp (by omega)]) ?_
  refine lv_aload_n hx hb dL_law_285 rfl (lv_at hl 3 rfl) ?_
  refine lv_iload_n hx hb dL_law_286 rfl (lv_at hl 0 rfl) ?_
  refine lv_bipush (v := 6) hx hb dL_law_287 (by decide) ?_
  refine lv_iadd hx hb dL_law_289 ?_
  refine lv_topi (fun v1934 ev1934 => ?_)
  obtain rfl : v1934 = nI (7 * k + 6) := ev1934.trans (nI_add (7 * k) 6)
  refine va_sld hx hb hX hbl hbA hS (nI_in (by omega) (by omega)) dL_law_290 ?_
  refine W.eq (g2 := F0 m 291 ls [.int (xs (7 * k + 6)), .int (xs (7 * k + 5)), .int (xs (7 * k + 4)), .int (xs (7 * k + 3)), .int (xs (7 * k + 2)), .int (xs (7 * k + 1)), .ref (v 0)]) (by rw [nI_clamp (by omega)]) ?_
  refine lv_if_eq (tgt := 298) hx hb dL_law_291 (by decide) (fun c1935 => ?_) (fun c1935 => ?_)
  · refine lv_iconst (v := 0) hx hb dL_law_298 (by decide) ?_
    obtain ⟨j1937, hj1937⟩ := pG_5 (cy := cy) (N := N) (T := T) (I := I) (Q := Q) (J := J) (hC.at 0 (by decide)) (hC.k 0 (by decide) rfl)
    have hFc := xfree (xD_l hD) hS hA
    refine va_calli (va_runV (As := [.int (xs (7 * k + 1)), .int (xs (7 * k + 2)), .int (xs (7 * k + 3)), .int (xs (7 * k + 4)), .int (xs (7 * k + 5)), .int 0]) (rest := []) ⟨hx, hb, hml, hown, hts⟩ (g_X5_produce l dC dI cy v L K N T I Q J H.size pa ra (kxo σ) σ (5 * (k : Int)) (xs (7 * k + 1)) (xs (7 * k + 2)) (xs (7 * k + 3)) (xs (7 * k + 4)) (xs (7 * k + 5)) 0 hE rfl hSK hLA (by omega) hB) (cwV 6 hts gL_law_X5_produce rfl rfl rfl (by decide +kernel) ⟨Nat.le_of_ble_eq_true rfl, Nat.le_of_ble_eq_true rfl⟩) ⟨pw_blind, va_recv hKx (xP_l hP) (ci := 5) (q0 := j1937) rfl hj1937, fun U hU hW => ⟨rfl, pw_pre (xP_l hP) hKx hN (xD_l hD) hU hW⟩⟩ rfl rfl hl.1 rfl (lv_room (Nat.le_of_ble_eq_true rfl)) dL_law_299 ⟨show (79 + 12 * k) + 1 ≤ 600000 by omega, show (13150 + 346 * k) + 8 ≤ 7302250 by omega⟩) hS (fun q _ h => hFc q h) hFc (fun r1936 d9 t H locs ht hvm hr1936 hB9 hz1 hk1 hS => ?_)
    obtain ⟨L, K, T, I, Q, J⟩ := d9
    obtain ⟨hP1, hK1, hD1⟩ := hB9
    rw [ht] at hP1
    have hPn : va_P (dC, dI) vwCl (va_pl L (pF cy K N T I Q J) ++ va_pl Lm (wF cz Km Nm Tm Im Qm Jm)) H := va_P.app hP1 (xj_keep hP hD hk1)
    have hD : va_D (fun q : Nat => s.heap.size ≤ q) (va_pl L (pF cy K N T I Q J) ++ va_pl Lm (wF cz Km Nm Tm Im Qm Jm)) := xj_D hP hD hD1 hFc
    have hP := hPn
    obtain ⟨hE2, hr5⟩ := hr1936
    have hE2 : REP v pa ra L K N T I Q J (kxo (qPr σ (xs (7 * k + 1)) (xs (7 * k + 2)) (xs (7 * k + 3)) (xs (7 * k + 4)) (xs (7 * k + 5)) 0).1) (qPr σ (xs (7 * k + 1)) (xs (7 * k + 2)) (xs (7 * k + 3)) (xs (7 * k + 4)) (xs (7 * k + 5)) 0).1 := hE2
    have hr5 : r1936 = (qPr σ (xs (7 * k + 1)) (xs (7 * k + 2)) (xs (7 * k + 3)) (xs (7 * k + 4)) (xs (7 * k + 5)) 0).2 := hr5
    have hC := hE2.ct
    refine lv_pop hx hb dL_law_302 rfl ?_
    refine lv_aload_n hx hb dL_law_303 rfl (lv_at hl 1 rfl) ?_
    refine lv_aload_n hx hb dL_law_304 rfl (lv_at hl 3 rfl) ?_
    refine lv_iload_n hx hb dL_law_305 rfl (lv_at hl 0 rfl) ?_
    refine lv_iconst (v := 1) hx hb dL_law_306 (by decide) ?_
    refine lv_iadd hx hb dL_law_307 ?_
    refine lv_topi (fun v1938 ev1938 => ?_)
    obtain rfl : v1938 = nI (7 * k + 1) := ev1938.trans (nI_add (7 * k) 1)
    refine va_sld hx hb hX hbl hbA hS (nI_in (by omega) (by omega)) dL_law_308 ?_
    refine W.eq (g2 := F0 m 309 ls [.int (xs (7 * k + 1)), .ref (w 0)]) (by rw [nI_clamp (by omega)]) ?_
    refine lv_aload_n hx hb dL_law_309 rfl (lv_at hl 3 rfl) ?_
    refine lv_iload_n hx hb dL_law_310 rfl (lv_at hl 0 rfl) ?_
    refine lv_iconst (v := 2) hx hb dL_law_311 (by decide) ?_
    refine lv_iadd hx hb dL_law_312 ?_
    refine lv_topi (fun v1939 ev1939 => ?_)
    obtain rfl : v1939 = nI (7 * k + 2) := ev1939.trans (nI_add (7 * k) 2)
    refine va_sld hx hb hX hbl hbA hS (nI_in (by omega) (by omega)) dL_law_313 ?_
    refine W.eq (g2 := F0 m 314 ls [.int (xs (7 * k + 2)), .int (xs (7 * k + 1)), .ref (w 0)]) (by rw [nI_clamp (by omega)]) ?_
    refine lv_aload_n hx hb dL_law_314 rfl (lv_at hl 3 rfl) ?_
    refine lv_iload_n hx hb dL_law_315 rfl (lv_at hl 0 rfl) ?_
    refine lv_iconst (v := 3) hx hb dL_law_316 (by decide) ?_
    refine lv_iadd hx hb dL_law_317 ?_
    refine lv_topi (fun v1940 ev1940 => ?_)
    obtain rfl : v1940 = nI (7 * k + 3) := ev1940.trans (nI_add (7 * k) 3)
    refine va_sld hx hb hX hbl hbA hS (nI_in (by omega) (by omega)) dL_law_318 ?_
    refine W.eq (g2 := F0 m 319 ls [.int (xs (7 * k + 3)), .int (xs (7 * k + 2)), .int (xs (7 * k + 1)), .ref (w 0)]) (by rw [nI_clamp (by omega)]) ?_
    refine lv_aload_n hx hb dL_law_319 rfl (lv_at hl 3 rfl) ?_
    refine lv_iload_n hx hb dL_law_320 rfl (lv_at hl 0 rfl) ?_
    refine lv_iconst (v := 4) hx hb dL_law_321 (by decide) ?_
    refine lv_iadd hx hb dL_law_322 ?_
    refine lv_topi (fun v1941 ev1941 => ?_)
    obtain rfl : v1941 = nI (7 * k + 4) := ev1941.trans (nI_add (7 * k) 4)
    refine va_sld hx hb hX hbl hbA hS (nI_in (by omega) (by omega)) dL_law_323 ?_
    refine W.eq (g2 := F0 m 324 ls [.int (xs (7 * k + 4)), .int (xs (7 * k + 3)), .int (xs (7 * k + 2)), .int (xs (7 * k + 1)), .ref (w 0)]) (by rw [nI_clamp (by omega)]) ?_
    refine lv_aload_n hx hb dL_law_324 rfl (lv_at hl 3 rfl) ?_
    refine lv_iload_n hx hb dL_law_325 rfl (lv_at hl 0 rfl) ?_
    refine lv_iconst (v := 5) hx hb dL_law_326 (by decide) ?_
    refine lv_iadd hx hb dL_law_327 ?_
    refine lv_topi (fun v1942 ev1942 => ?_)
    obtain rfl : v1942 = nI (7 * k + 5) := ev1942.trans (nI_add (7 * k) 5)
    refine va_sld hx hb hX hbl hbA hS (nI_in (by omega) (by omega)) dL_law_328 ?_
    refine W.eq (g2 := F0 m 329 ls [.int (xs (7 * k + 5)), .int (xs (7 * k + 4)), .int (xs (7 * k + 3)), .int (xs (7 * k + 2)), .int (xs (7 * k + 1)), .ref (w 0)]) (by rw [nI_clamp (by omega)]) ?_
    refine lv_aload_n hx hb dL_law_329 rfl (lv_at hl 3 rfl) ?_
    refine lv_iload_n hx hb dL_law_330 rfl (lv_at hl 0 rfl) ?_
    refine lv_bipush (v := 6) hx hb dL_law_331 (by decide) ?_
    refine lv_iadd hx hb dL_law_333 ?_
    refine lv_topi (fun v1943 ev1943 => ?_)
    obtain rfl : v1943 = nI (7 * k + 6) := ev1943.trans (nI_add (7 * k) 6)
    refine va_sld hx hb hX hbl hbA hS (nI_in (by omega) (by omega)) dL_law_334 ?_
    refine W.eq (g2 := F0 m 335 ls [.int (xs (7 * k + 6)), .int (xs (7 * k + 5)), .int (xs (7 * k + 4)), .int (xs (7 * k + 3)), .int (xs (7 * k + 2)), .int (xs (7 * k + 1)), .ref (w 0)]) (by rw [nI_clamp (by omega)]) ?_
    refine lv_if_eq (tgt := 342) hx hb dL_law_335 (by decide) (fun c1944 => ?_) (fun c1944 => ?_)
    rotate_left
    · exact absurd c1935 c1944
    refine lv_iconst (v := 0) hx hb dL_law_342 (by decide) ?_
    obtain ⟨j1946, hj1946⟩ := wG_7 (cy := cz) (N := Nm) (T := Tm) (I := Im) (Q := Qm) (J := Jm) (hM.at 0 (by decide)) (hM.k 0 (by decide) rfl)
    have hPs := xswapP hP
    have hDs := xswapD hD
    have hFc := xfree (xD_l hDs) hS hA
    refine va_calli (va_runV (As := [.int (xs (7 * k + 1)), .int (xs (7 * k + 2)), .int (xs (7 * k + 3)), .int (xs (7 * k + 4)), .int (xs (7 * k + 5)), .int 0]) (rest := []) ⟨hx, hb, hml, hown, hts⟩ (f_X7_produce l dC dI cz w Lm Km Nm Tm Qm Im Jm H.size (5 * (k : Int)) (xs (7 * k + 1)) (xs (7 * k + 2)) (xs (7 * k + 3)) (xs (7 * k + 4)) (xs (7 * k + 5)) 0 σ hM hI (by omega) hMR) (cwV 6 hts gL_law_X7_produce rfl rfl rfl (by decide +kernel) ⟨Nat.le_of_ble_eq_true rfl, Nat.le_of_ble_eq_true rfl⟩) ⟨mw_blind, va_recv hKm (xP_r hP) (ci := 7) (q0 := j1946) rfl hj1946, fun U hU hW => ⟨rfl, mw_pre (xP_r hP) hKm (xD_r hD) hU hW⟩⟩ rfl rfl hl.1 rfl (lv_room (Nat.le_of_ble_eq_true rfl)) dL_law_343 ⟨show (79 + 12 * k + 1) + 0 ≤ 600000 by omega, show (13150 + 346 * k + 8) + 0 ≤ 7302250 by omega⟩) hS (fun q _ h => hFc q h) hFc (fun r1945 d9 t H locs ht hvm hr1945 hB9 hz1 hk1 hS => ?_)
    obtain ⟨Im, Jm⟩ := d9
    obtain ⟨hP1, hK1, hD1⟩ := hB9
    rw [ht] at hP1
    have hP : va_P (dC, dI) vwCl (va_pl L (pF cy K N T I Q J) ++ va_pl Lm (wF cz Km Nm Tm Im Qm Jm)) H := va_P.app (xj_keep hPs hDs hk1) hP1
    have hD : va_D (fun q : Nat => s.heap.size ≤ q) (va_pl L (pF cy K N T I Q J) ++ va_pl Lm (wF cz Km Nm Tm Im Qm Jm)) := xswapD (xj_D hPs hDs hD1 hFc)
    have hI : MI w (5 * (k : Int) + 5) Im Jm := hr1945.1
    obtain ⟨hMR2, hr7⟩ := hr1945.2
    have hMR2 : MR w Im Jm (qPr σ (xs (7 * k + 1)) (xs (7 * k + 2)) (xs (7 * k + 3)) (xs (7 * k + 4)) (xs (7 * k + 5)) 0).1 := hMR2
    have hr7 : r1945 = (qPr σ (xs (7 * k + 1)) (xs (7 * k + 2)) (xs (7 * k + 3)) (xs (7 * k + 4)) (xs (7 * k + 5)) 0).2 := hr7
    refine lv_pop hx hb dL_law_346 rfl ?_
    refine lv_goto (tgt := 1052) hx hb dL_law_347 (by decide) ?_
    refine W.widen (k := 79 + 12 * (k + 1)) (n := 13150 + 346 * (k + 1)) (by omega) (by omega) ?_
    exact hT L K T I Q J Im Jm H locs ls ⟨hC, hI.mono (by omega), ⟨pa, ra, _, hE2, hMR2, hSK.pr hLA (by omega) (xs (7 * k + 1)) (xs (7 * k + 2)) (xs (7 * k + 3)) (xs (7 * k + 4)) (xs (7 * k + 5)) 0⟩, hP, hD⟩ hS hl
  · refine lv_iconst (v := 1) hx hb dL_law_294 (by decide) ?_
    refine lv_goto (tgt := 299) hx hb dL_law_295 (by decide) ?_
    obtain ⟨j1948, hj1948⟩ := pG_5 (cy := cy) (N := N) (T := T) (I := I) (Q := Q) (J := J) (hC.at 0 (by decide)) (hC.k 0 (by decide) rfl)
    have hFc := xfree (xD_l hD) hS hA
    refine va_calli (va_runV (As := [.int (xs (7 * k + 1)), .int (xs (7 * k + 2)), .int (xs (7 * k + 3)), .int (xs (7 * k + 4)), .int (xs (7 * k + 5)), .int 1]) (rest := []) ⟨hx, hb, hml, hown, hts⟩ (g_X5_produce l dC dI cy v L K N T I Q J H.size pa ra (kxo σ) σ (5 * (k : Int)) (xs (7 * k + 1)) (xs (7 * k + 2)) (xs (7 * k + 3)) (xs (7 * k + 4)) (xs (7 * k + 5)) 1 hE rfl hSK hLA (by omega) hB) (cwV 6 hts gL_law_X5_produce rfl rfl rfl (by decide +kernel) ⟨Nat.le_of_ble_eq_true rfl, Nat.le_of_ble_eq_true rfl⟩) ⟨pw_blind, va_recv hKx (xP_l hP) (ci := 5) (q0 := j1948) rfl hj1948, fun U hU hW => ⟨rfl, pw_pre (xP_l hP) hKx hN (xD_l hD) hU hW⟩⟩ rfl rfl hl.1 rfl (lv_room (Nat.le_of_ble_eq_true rfl)) dL_law_299 ⟨show (79 + 12 * k) + 1 ≤ 600000 by omega, show (13150 + 346 * k) + 8 ≤ 7302250 by omega⟩) hS (fun q _ h => hFc q h) hFc (fun r1947 d9 t H locs ht hvm hr1947 hB9 hz1 hk1 hS => ?_)
    obtain ⟨L, K, T, I, Q, J⟩ := d9
    obtain ⟨hP1, hK1, hD1⟩ := hB9
    rw [ht] at hP1
    have hPn : va_P (dC, dI) vwCl (va_pl L (pF cy K N T I Q J) ++ va_pl Lm (wF cz Km Nm Tm Im Qm Jm)) H := va_P.app hP1 (xj_keep hP hD hk1)
    have hD : va_D (fun q : Nat => s.heap.size ≤ q) (va_pl L (pF cy K N T I Q J) ++ va_pl Lm (wF cz Km Nm Tm Im Qm Jm)) := xj_D hP hD hD1 hFc
    have hP := hPn
    obtain ⟨hE2, hr5⟩ := hr1947
    have hE2 : REP v pa ra L K N T I Q J (kxo (qPr σ (xs (7 * k + 1)) (xs (7 * k + 2)) (xs (7 * k + 3)) (xs (7 * k + 4)) (xs (7 * k + 5)) 1).1) (qPr σ (xs (7 * k + 1)) (xs (7 * k + 2)) (xs (7 * k + 3)) (xs (7 * k + 4)) (xs (7 * k + 5)) 1).1 := hE2
    have hr5 : r1947 = (qPr σ (xs (7 * k + 1)) (xs (7 * k + 2)) (xs (7 * k + 3)) (xs (7 * k + 4)) (xs (7 * k + 5)) 1).2 := hr5
    have hC := hE2.ct
    refine lv_pop hx hb dL_law_302 rfl ?_
    refine lv_aload_n hx hb dL_law_303 rfl (lv_at hl 1 rfl) ?_
    refine lv_aload_n hx hb dL_law_304 rfl (lv_at hl 3 rfl) ?_
    refine lv_iload_n hx hb dL_law_305 rfl (lv_at hl 0 rfl) ?_
    refine lv_iconst (v := 1) hx hb dL_law_306 (by decide) ?_
    refine lv_iadd hx hb dL_law_307 ?_
    refine lv_topi (fun v1949 ev1949 => ?_)
    obtain rfl : v1949 = nI (7 * k + 1) := ev1949.trans (nI_add (7 * k) 1)
    refine va_sld hx hb hX hbl hbA hS (nI_in (by omega) (by omega)) dL_law_308 ?_
    refine W.eq (g2 := F0 m 309 ls [.int (xs (7 * k + 1)), .ref (w 0)]) (by rw [nI_clamp (by omega)]) ?_
    refine lv_aload_n hx hb dL_law_309 rfl (lv_at hl 3 rfl) ?_
    refine lv_iload_n hx hb dL_law_310 rfl (lv_at hl 0 rfl) ?_
    refine lv_iconst (v := 2) hx hb dL_law_311 (by decide) ?_
    refine lv_iadd hx hb dL_law_312 ?_
    refine lv_topi (fun v1950 ev1950 => ?_)
    obtain rfl : v1950 = nI (7 * k + 2) := ev1950.trans (nI_add (7 * k) 2)
    refine va_sld hx hb hX hbl hbA hS (nI_in (by omega) (by omega)) dL_law_313 ?_
    refine W.eq (g2 := F0 m 314 ls [.int (xs (7 * k + 2)), .int (xs (7 * k + 1)), .ref (w 0)]) (by rw [nI_clamp (by omega)]) ?_
    refine lv_aload_n hx hb dL_law_314 rfl (lv_at hl 3 rfl) ?_
    refine lv_iload_n hx hb dL_law_315 rfl (lv_at hl 0 rfl) ?_
    refine lv_iconst (v := 3) hx hb dL_law_316 (by decide) ?_
    refine lv_iadd hx hb dL_law_317 ?_
    refine lv_topi (fun v1951 ev1951 => ?_)
    obtain rfl : v1951 = nI (7 * k + 3) := ev1951.trans (nI_add (7 * k) 3)
    refine va_sld hx hb hX hbl hbA hS (nI_in (by omega) (by omega)) dL_law_318 ?_
    refine W.eq (g2 := F0 m 319 ls [.int (xs (7 * k + 3)), .int (xs (7 * k + 2)), .int (xs (7 * k + 1)), .ref (w 0)]) (by rw [nI_clamp (by omega)]) ?_
    refine lv_aload_n hx hb dL_law_319 rfl (lv_at hl 3 rfl) ?_
    refine lv_iload_n hx hb dL_law_320 rfl (lv_at hl 0 rfl) ?_
    refine lv_iconst (v := 4) hx hb dL_law_321 (by decide) ?_
    refine lv_iadd hx hb dL_law_322 ?_
    refine lv_topi (fun v1952 ev1952 => ?_)
    obtain rfl : v1952 = nI (7 * k + 4) := ev1952.trans (nI_add (7 * k) 4)
    refine va_sld hx hb hX hbl hbA hS (nI_in (by omega) (by omega)) dL_law_323 ?_
    refine W.eq (g2 := F0 m 324 ls [.int (xs (7 * k + 4)), .int (xs (7 * k + 3)), .int (xs (7 * k + 2)), .int (xs (7 * k + 1)), .ref (w 0)]) (by rw [nI_clamp (by omega)]) ?_
    refine lv_aload_n hx hb dL_law_324 rfl (lv_at hl 3 rfl) ?_
    refine lv_iload_n hx hb dL_law_325 rfl (lv_at hl 0 rfl) ?_
    refine lv_iconst (v := 5) hx hb dL_law_326 (by decide) ?_
    refine lv_iadd hx hb dL_law_327 ?_
    refine lv_topi (fun v1953 ev1953 => ?_)
    obtain rfl : v1953 = nI (7 * k + 5) := ev1953.trans (nI_add (7 * k) 5)
    refine va_sld hx hb hX hbl hbA hS (nI_in (by omega) (by omega)) dL_law_328 ?_
    refine W.eq (g2 := F0 m 329 ls [.int (xs (7 * k + 5)), .int (xs (7 * k + 4)), .int (xs (7 * k + 3)), .int (xs (7 * k + 2)), .int (xs (7 * k + 1)), .ref (w 0)]) (by rw [nI_clamp (by omega)]) ?_
    refine lv_aload_n hx hb dL_law_329 rfl (lv_at hl 3 rfl) ?_
    refine lv_iload_n hx hb dL_law_330 rfl (lv_at hl 0 rfl) ?_
    refine lv_bipush (v := 6) hx hb dL_law_331 (by decide) ?_
    refine lv_iadd hx hb dL_law_333 ?_
    refine lv_topi (fun v1954 ev1954 => ?_)
    obtain rfl : v1954 = nI (7 * k + 6) := ev1954.trans (nI_add (7 * k) 6)
    refine va_sld hx hb hX hbl hbA hS (nI_in (by omega) (by omega)) dL_law_334 ?_
    refine W.eq (g2 := F0 m 335 ls [.int (xs (7 * k + 6)), .int (xs (7 * k + 5)), .int (xs (7 * k + 4)), .int (xs (7 * k + 3)), .int (xs (7 * k + 2)), .int (xs (7 * k + 1)), .ref (w 0)]) (by rw [nI_clamp (by omega)]) ?_
    refine lv_if_eq (tgt := 342) hx hb dL_law_335 (by decide) (fun c1955 => ?_) (fun c1955 => ?_)
    · exact absurd c1955 c1935
    refine lv_iconst (v := 1) hx hb dL_law_338 (by decide) ?_
    refine lv_goto (tgt := 343) hx hb dL_law_339 (by decide) ?_
    obtain ⟨j1957, hj1957⟩ := wG_7 (cy := cz) (N := Nm) (T := Tm) (I := Im) (Q := Qm) (J := Jm) (hM.at 0 (by decide)) (hM.k 0 (by decide) rfl)
    have hPs := xswapP hP
    have hDs := xswapD hD
    have hFc := xfree (xD_l hDs) hS hA
    refine va_calli (va_runV (As := [.int (xs (7 * k + 1)), .int (xs (7 * k + 2)), .int (xs (7 * k + 3)), .int (xs (7 * k + 4)), .int (xs (7 * k + 5)), .int 1]) (rest := []) ⟨hx, hb, hml, hown, hts⟩ (f_X7_produce l dC dI cz w Lm Km Nm Tm Qm Im Jm H.size (5 * (k : Int)) (xs (7 * k + 1)) (xs (7 * k + 2)) (xs (7 * k + 3)) (xs (7 * k + 4)) (xs (7 * k + 5)) 1 σ hM hI (by omega) hMR) (cwV 6 hts gL_law_X7_produce rfl rfl rfl (by decide +kernel) ⟨Nat.le_of_ble_eq_true rfl, Nat.le_of_ble_eq_true rfl⟩) ⟨mw_blind, va_recv hKm (xP_r hP) (ci := 7) (q0 := j1957) rfl hj1957, fun U hU hW => ⟨rfl, mw_pre (xP_r hP) hKm (xD_r hD) hU hW⟩⟩ rfl rfl hl.1 rfl (lv_room (Nat.le_of_ble_eq_true rfl)) dL_law_343 ⟨show (79 + 12 * k + 1) + 0 ≤ 600000 by omega, show (13150 + 346 * k + 8) + 0 ≤ 7302250 by omega⟩) hS (fun q _ h => hFc q h) hFc (fun r1956 d9 t H locs ht hvm hr1956 hB9 hz1 hk1 hS => ?_)
    obtain ⟨Im, Jm⟩ := d9
    obtain ⟨hP1, hK1, hD1⟩ := hB9
    rw [ht] at hP1
    have hP : va_P (dC, dI) vwCl (va_pl L (pF cy K N T I Q J) ++ va_pl Lm (wF cz Km Nm Tm Im Qm Jm)) H := va_P.app (xj_keep hPs hDs hk1) hP1
    have hD : va_D (fun q : Nat => s.heap.size ≤ q) (va_pl L (pF cy K N T I Q J) ++ va_pl Lm (wF cz Km Nm Tm Im Qm Jm)) := xswapD (xj_D hPs hDs hD1 hFc)
    have hI : MI w (5 * (k : Int) + 5) Im Jm := hr1956.1
    obtain ⟨hMR2, hr7⟩ := hr1956.2
    have hMR2 : MR w Im Jm (qPr σ (xs (7 * k + 1)) (xs (7 * k + 2)) (xs (7 * k + 3)) (xs (7 * k + 4)) (xs (7 * k + 5)) 1).1 := hMR2
    have hr7 : r1956 = (qPr σ (xs (7 * k + 1)) (xs (7 * k + 2)) (xs (7 * k + 3)) (xs (7 * k + 4)) (xs (7 * k + 5)) 1).2 := hr7
    refine lv_pop hx hb dL_law_346 rfl ?_
    refine lv_goto (tgt := 1052) hx hb dL_law_347 (by decide) ?_
    refine W.widen (k := 79 + 12 * (k + 1)) (n := 13150 + 346 * (k + 1)) (by omega) (by omega) ?_
    exact hT L K T I Q J Im Jm H locs ls ⟨hC, hI.mono (by omega), ⟨pa, ra, _, hE2, hMR2, hSK.pr hLA (by omega) (xs (7 * k + 1)) (xs (7 * k + 2)) (xs (7 * k + 3)) (xs (7 * k + 4)) (xs (7 * k + 5)) 1⟩, hP, hD⟩ hS hl
set_option maxHeartbeats 4000000 in
set_option maxRecDepth 100000 in
theorem lw_c4 {p : Program} {e : Env} {s : State} {m : MethodId} {below : List Frame} {meth : Method} {c : Code} (l : Launch) {b Ls : Nat} {xs : Nat → Int32} (C0 : lw_At p s m meth c b Ls xs) {dC : Nat → ClassId} {dI : Nat → Nat → Nat} {cy : Nat → ClassId} {v : Nat → Nat} {N : Nat → Nat} {cz : Nat → ClassId} {w : Nat → Nat} {Lm : List Nat} {Km Nm : Nat → Nat} {Tm : Nat → Nat → Nat} {Qm : Nat → Nat → Option Nat} (hKx : va_K (dC, dI) vwCl (pTy cy) s) (hKm : va_K (dC, dI) vwCl (mTy cz) s) (hN : xN s) (hM : MS w Lm Km Nm Tm Qm) (hLs : Ls ≤ 448) (k : Nat) (hk : 7 * k + 7 ≤ Ls) (hT : ∀ (L : List Nat) (K : Nat → Nat) (T : Nat → Nat → Nat) (I : Nat → Nat → Int32) (Q : Nat → Nat → Option Nat) (J Im Jm : Nat → Nat → Int32) (H : Heap) (locs : List Loc) (ls : Array Slot), lwI dC dI cy v N cz w Lm Km Nm Tm Qm (fun q : Nat => s.heap.size ≤ q) H (k + 1) L K T I Q J Im Jm → va_S (fun q : Nat => s.heap.size ≤ q) s.heap H locs → lv_has ls 4 [(3, .int (nI (7 * k))), (2, .ref (w 0)), (1, .ref (v 0)), (0, .ref b)] → W p l e room_1 s m #[Value.ref b] below meth c H locs (79 + 12 * (k + 1)) (13150 + 346 * (k + 1)) (lw_Z below #[Value.ref b] s) (F0 m 1052 ls [])) (L : List Nat) (K : Nat → Nat) (T : Nat → Nat → Nat) (I : Nat → Nat → Int32) (Q : Nat → Nat → Option Nat) (J Im Jm : Nat → Nat → Int32) (H : Heap) (locs : List Loc) (ls : Array Slot) (h0 : lwI dC dI cy v N cz w Lm Km Nm Tm Qm (fun q : Nat => s.heap.size ≤ q) H k L K T I Q J Im Jm) (hS : va_S (fun q : Nat => s.heap.size ≤ q) s.heap H locs) (hl : lv_has ls 4 [(3, .int (nI (7 * k))), (2, .ref (w 0)), (1, .ref (v 0)), (0, .ref b)]) : W p l e room_1 s m #[Value.ref b] below meth c H locs (79 + 12 * k) (13150 + 346 * k) (lw_Z below #[Value.ref b] s) (F0 m 350 ls []) := by
  obtain ⟨hx, hb, hr, hml, hown, hts0, hX, hbl, hlocks, hgv⟩ := id C0
  have hown : s.vm.findClass RL = some m.cls := hown
  have hts : ∀ w ∈ wsL_law, w.before #[Value.ref b] s = true := fun w h => hts0 w (wsL_law_in w h)
  have hA : ∀ q : Nat, s.heap.size ≤ q → (fun q : Nat => s.heap.size ≤ q) q := fun _ h => h
  have hbA : ¬ (fun q : Nat => s.heap.size ≤ q) b := Nat.not_le.mpr hbl
  obtain ⟨hC, hI, hSR, hP, hD⟩ := h0
  obtain ⟨pa, ra, σ, hE, hMR, hSK⟩ := hSR
  have hLA : LA (5 * (k : Int)) σ := fun j hj => hMR.ml hj (hI.1 j hj)
  have hB : B5 (σ.1 0 0) := by rw [← hMR.1.1]; exact hI.2.2
  refine lv_aload_n hx hb dL_law_350 rfl (lv_at hl 2 rfl) ?_
  refine lv_aload_n hx hb dL_law_351 rfl (lv_at hl 3 rfl) ?_
  refine lv_iload_n hx hb dL_law_352 rfl (lv_at hl 0 rfl) ?_
  refine lv_iconst (v := 1) hx hb dL_law_353 (by decide) ?_
  refine lv_iadd hx hb dL_law_354 ?_
  refine lv_topi (fun v1958 ev1958 => ?_)
  obtain rfl : v1958 = nI (7 * k + 1) := ev1958.trans (nI_add (7 * k) 1)
  refine va_sld hx hb hX hbl hbA hS (nI_in (by omega) (by omega)) dL_law_355 ?_
  refine W.eq (g2 := F0 m 356 ls [.int (xs (7 * k + 1)), .ref (v 0)]) (by rw [nI_clamp (by omega)]) ?_
  refine lv_aload_n hx hb dL_law_356 rfl (lv_at hl 3 rfl) ?_
  refine lv_iload_n hx hb dL_law_357 rfl (lv_at hl 0 rfl) ?_
  refine lv_iconst (v := 2) hx hb dL_law_358 (by decide) ?_
  refine lv_iadd hx hb dL_law_359 ?_
  refine lv_topi (fun v1959 ev1959 => ?_)
  obtain rfl : v1959 = nI (7 * k + 2) := ev1959.trans (nI_add (7 * k) 2)
  refine va_sld hx hb hX hbl hbA hS (nI_in (by omega) (by omega)) dL_law_360 ?_
  refine W.eq (g2 := F0 m 361 ls [.int (xs (7 * k + 2)), .int (xs (7 * k + 1)), .ref (v 0)]) (by rw [nI_clamp (by omega)]) ?_
  obtain ⟨j1961, hj1961⟩ := pG_5 (cy := cy) (N := N) (T := T) (I := I) (Q := Q) (J := J) (hC.at 0 (by decide)) (hC.k 0 (by decide) rfl)
  refine vp_callSi (W.runV (As := [.int (xs (7 * k + 1)), .int (xs (7 * k + 2))]) (rest := []) ⟨hx, hb, hml, hown, hts⟩ (c_X5_safe l dC dI cy v L K N T I Q J (xs (7 * k + 1)) (xs (7 * k + 2)) hC) (cwV 2 hts gL_law_X5_safe rfl rfl rfl (by decide +kernel) ⟨Nat.le_of_ble_eq_true rfl, Nat.le_of_ble_eq_true rfl⟩) ⟨pb_blind, va_recv hKx (xP_l hP) (ci := 5) (q0 := j1961) rfl hj1961, fun U hU hW => ⟨rfl, pb_pre (xP_l hP) hKx hN hU hW⟩⟩ rfl rfl hl.1 rfl (lv_room (Nat.le_of_ble_eq_true rfl)) dL_law_361 ⟨show (79 + 12 * k) + 0 ≤ 600000 by omega, show (13150 + 346 * k) + 0 ≤ 7302250 by omega⟩) (fun r1960 hr1960 => ?_)
  refine lv_pop hx hb dL_law_364 rfl ?_
  refine lv_aload_n hx hb dL_law_365 rfl (lv_at hl 1 rfl) ?_
  refine lv_aload_n hx hb dL_law_366 rfl (lv_at hl 3 rfl) ?_
  refine lv_iload_n hx hb dL_law_367 rfl (lv_at hl 0 rfl) ?_
  refine lv_iconst (v := 1) hx hb dL_law_368 (by decide) ?_
  refine lv_iadd hx hb dL_law_369 ?_
  refine lv_topi (fun v1962 ev1962 => ?_)
  obtain rfl : v1962 = nI (7 * k + 1) := ev1962.trans (nI_add (7 * k) 1)
  refine va_sld hx hb hX hbl hbA hS (nI_in (by omega) (by omega)) dL_law_370 ?_
  refine W.eq (g2 := F0 m 371 ls [.int (xs (7 * k + 1)), .ref (w 0)]) (by rw [nI_clamp (by omega)]) ?_
  refine lv_aload_n hx hb dL_law_371 rfl (lv_at hl 3 rfl) ?_
  refine lv_iload_n hx hb dL_law_372 rfl (lv_at hl 0 rfl) ?_
  refine lv_iconst (v := 2) hx hb dL_law_373 (by decide) ?_
  refine lv_iadd hx hb dL_law_374 ?_
  refine lv_topi (fun v1963 ev1963 => ?_)
  obtain rfl : v1963 = nI (7 * k + 2) := ev1963.trans (nI_add (7 * k) 2)
  refine va_sld hx hb hX hbl hbA hS (nI_in (by omega) (by omega)) dL_law_375 ?_
  refine W.eq (g2 := F0 m 376 ls [.int (xs (7 * k + 2)), .int (xs (7 * k + 1)), .ref (w 0)]) (by rw [nI_clamp (by omega)]) ?_
  obtain ⟨j1965, hj1965⟩ := wG_7 (cy := cz) (N := Nm) (T := Tm) (I := Im) (Q := Qm) (J := Jm) (hM.at 0 (by decide)) (hM.k 0 (by decide) rfl)
  refine vp_callSi (W.runV (As := [.int (xs (7 * k + 1)), .int (xs (7 * k + 2))]) (rest := []) ⟨hx, hb, hml, hown, hts⟩ (c_X7_safe l dC dI cz w Lm Km Nm Tm Qm Im Jm (xs (7 * k + 1)) (xs (7 * k + 2)) hM) (cwV 2 hts gL_law_X7_safe rfl rfl rfl (by decide +kernel) ⟨Nat.le_of_ble_eq_true rfl, Nat.le_of_ble_eq_true rfl⟩) ⟨mb_blind, va_recv hKm (xP_r hP) (ci := 7) (q0 := j1965) rfl hj1965, fun U hU hW => ⟨rfl, mb_pre (xP_r hP) hKm hU hW⟩⟩ rfl rfl hl.1 rfl (lv_room (Nat.le_of_ble_eq_true rfl)) dL_law_376 ⟨show (79 + 12 * k) + 0 ≤ 600000 by omega, show (13150 + 346 * k) + 0 ≤ 7302250 by omega⟩) (fun r1964 hr1964 => ?_)
  refine lv_pop hx hb dL_law_379 rfl ?_
  refine lv_goto (tgt := 1052) hx hb dL_law_380 (by decide) ?_
  refine W.widen (k := 79 + 12 * (k + 1)) (n := 13150 + 346 * (k + 1)) (by omega) (by omega) ?_
  exact hT L K T I Q J Im Jm H locs ls ⟨hC, hI.mono (by omega), ⟨pa, ra, σ, hE, hMR, hSK⟩, hP, hD⟩ hS hl
set_option maxHeartbeats 4000000 in
set_option maxRecDepth 100000 in
theorem lw_c5 {p : Program} {e : Env} {s : State} {m : MethodId} {below : List Frame} {meth : Method} {c : Code} (l : Launch) {b Ls : Nat} {xs : Nat → Int32} (C0 : lw_At p s m meth c b Ls xs) {dC : Nat → ClassId} {dI : Nat → Nat → Nat} {cy : Nat → ClassId} {v : Nat → Nat} {N : Nat → Nat} {cz : Nat → ClassId} {w : Nat → Nat} {Lm : List Nat} {Km Nm : Nat → Nat} {Tm : Nat → Nat → Nat} {Qm : Nat → Nat → Option Nat} (hKx : va_K (dC, dI) vwCl (pTy cy) s) (hKm : va_K (dC, dI) vwCl (mTy cz) s) (hN : xN s) (hM : MS w Lm Km Nm Tm Qm) (hLs : Ls ≤ 448) (k : Nat) (hk : 7 * k + 7 ≤ Ls) (hT : ∀ (L : List Nat) (K : Nat → Nat) (T : Nat → Nat → Nat) (I : Nat → Nat → Int32) (Q : Nat → Nat → Option Nat) (J Im Jm : Nat → Nat → Int32) (H : Heap) (locs : List Loc) (ls : Array Slot), lwI dC dI cy v N cz w Lm Km Nm Tm Qm (fun q : Nat => s.heap.size ≤ q) H (k + 1) L K T I Q J Im Jm → va_S (fun q : Nat => s.heap.size ≤ q) s.heap H locs → lv_has ls 4 [(3, .int (nI (7 * k))), (2, .ref (w 0)), (1, .ref (v 0)), (0, .ref b)] → W p l e room_1 s m #[Value.ref b] below meth c H locs (79 + 12 * (k + 1)) (13150 + 346 * (k + 1)) (lw_Z below #[Value.ref b] s) (F0 m 1052 ls [])) (L : List Nat) (K : Nat → Nat) (T : Nat → Nat → Nat) (I : Nat → Nat → Int32) (Q : Nat → Nat → Option Nat) (J Im Jm : Nat → Nat → Int32) (H : Heap) (locs : List Loc) (ls : Array Slot) (h0 : lwI dC dI cy v N cz w Lm Km Nm Tm Qm (fun q : Nat => s.heap.size ≤ q) H k L K T I Q J Im Jm) (hS : va_S (fun q : Nat => s.heap.size ≤ q) s.heap H locs) (hl : lv_has ls 4 [(3, .int (nI (7 * k))), (2, .ref (w 0)), (1, .ref (v 0)), (0, .ref b)]) : W p l e room_1 s m #[Value.ref b] below meth c H locs (79 + 12 * k) (13150 + 346 * k) (lw_Z below #[Value.ref b] s) (F0 m 383 ls []) := by
  obtain ⟨hx, hb, hr, hml, hown, hts0, hX, hbl, hlocks, hgv⟩ := id C0
  have hown : s.vm.findClass RL = some m.cls := hown
  have hts : ∀ w ∈ wsL_law, w.before #[Value.ref b] s = true := fun w h => hts0 w (wsL_law_in w h)
  have hA : ∀ q : Nat, s.heap.size ≤ q → (fun q : Nat => s.heap.size ≤ q) q := fun _ h => h
  have hbA : ¬ (fun q : Nat => s.heap.size ≤ q) b := Nat.not_le.mpr hbl
  obtain ⟨hC, hI, hSR, hP, hD⟩ := h0
  obtain ⟨pa, ra, σ, hE, hMR, hSK⟩ := hSR
  have hLA : LA (5 * (k : Int)) σ := fun j hj => hMR.ml hj (hI.1 j hj)
  have hB : B5 (σ.1 0 0) := by rw [← hMR.1.1]; exact hI.2.2
  refine lv_aload_n hx hb dL_law_383 rfl (lv_at hl 2 rfl) ?_
  refine lv_aload_n hx hb dL_law_384 rfl (lv_at hl 3 rfl) ?_
  refine lv_iload_n hx hb dL_law_385 rfl (lv_at hl 0 rfl) ?_
  refine lv_iconst (v := 1) hx hb dL_law_386 (by decide) ?_
  refine lv_iadd hx hb dL_law_387 ?_
  refine lv_topi (fun v1966 ev1966 => ?_)
  obtain rfl : v1966 = nI (7 * k + 1) := ev1966.trans (nI_add (7 * k) 1)
  refine va_sld hx hb hX hbl hbA hS (nI_in (by omega) (by omega)) dL_law_388 ?_
  refine W.eq (g2 := F0 m 389 ls [.int (xs (7 * k + 1)), .ref (v 0)]) (by rw [nI_clamp (by omega)]) ?_
  refine lv_aload_n hx hb dL_law_389 rfl (lv_at hl 3 rfl) ?_
  refine lv_iload_n hx hb dL_law_390 rfl (lv_at hl 0 rfl) ?_
  refine lv_iconst (v := 2) hx hb dL_law_391 (by decide) ?_
  refine lv_iadd hx hb dL_law_392 ?_
  refine lv_topi (fun v1967 ev1967 => ?_)
  obtain rfl : v1967 = nI (7 * k + 2) := ev1967.trans (nI_add (7 * k) 2)
  refine va_sld hx hb hX hbl hbA hS (nI_in (by omega) (by omega)) dL_law_393 ?_
  refine W.eq (g2 := F0 m 394 ls [.int (xs (7 * k + 2)), .int (xs (7 * k + 1)), .ref (v 0)]) (by rw [nI_clamp (by omega)]) ?_
  obtain ⟨j1969, hj1969⟩ := pG_5 (cy := cy) (N := N) (T := T) (I := I) (Q := Q) (J := J) (hC.at 0 (by decide)) (hC.k 0 (by decide) rfl)
  have hFc := xfree (xD_l hD) hS hA
  refine va_calli (va_runV (As := [.int (xs (7 * k + 1)), .int (xs (7 * k + 2))]) (rest := []) ⟨hx, hb, hml, hown, hts⟩ (g_X5_follow l dC dI cy v L K N T I Q J H.size pa ra (kxo σ) σ (5 * (k : Int)) (xs (7 * k + 1)) (xs (7 * k + 2)) hE rfl hSK hLA (by omega) hB) (cwV 2 hts gL_law_X5_follow rfl rfl rfl (by decide +kernel) ⟨Nat.le_of_ble_eq_true rfl, Nat.le_of_ble_eq_true rfl⟩) ⟨pw_blind, va_recv hKx (xP_l hP) (ci := 5) (q0 := j1969) rfl hj1969, fun U hU hW => ⟨rfl, pw_pre (xP_l hP) hKx hN (xD_l hD) hU hW⟩⟩ rfl rfl hl.1 rfl (lv_room (Nat.le_of_ble_eq_true rfl)) dL_law_394 ⟨show (79 + 12 * k) + 0 ≤ 600000 by omega, show (13150 + 346 * k) + 0 ≤ 7302250 by omega⟩) hS (fun q _ h => hFc q h) hFc (fun r1968 d9 t H locs ht hvm hr1968 hB9 hz1 hk1 hS => ?_)
  obtain ⟨I, Q, J⟩ := d9
  obtain ⟨hP1, hK1, hD1⟩ := hB9
  rw [ht] at hP1
  have hPn : va_P (dC, dI) vwCl (va_pl L (pF cy K N T I Q J) ++ va_pl Lm (wF cz Km Nm Tm Im Qm Jm)) H := va_P.app hP1 (xj_keep hP hD hk1)
  have hD : va_D (fun q : Nat => s.heap.size ≤ q) (va_pl L (pF cy K N T I Q J) ++ va_pl Lm (wF cz Km Nm Tm Im Qm Jm)) := xj_D hP hD hD1 hFc
  have hP := hPn
  obtain ⟨hE2, hr5⟩ := hr1968
  have hE2 : REP v pa ra L K N T I Q J (kxo (qFo σ (xs (7 * k + 1)) (xs (7 * k + 2))).1) (qFo σ (xs (7 * k + 1)) (xs (7 * k + 2))).1 := hE2
  have hr5 : r1968 = (qFo σ (xs (7 * k + 1)) (xs (7 * k + 2))).2 := hr5
  have hC := hE2.ct
  refine lv_pop hx hb dL_law_397 rfl ?_
  refine lv_aload_n hx hb dL_law_398 rfl (lv_at hl 1 rfl) ?_
  refine lv_aload_n hx hb dL_law_399 rfl (lv_at hl 3 rfl) ?_
  refine lv_iload_n hx hb dL_law_400 rfl (lv_at hl 0 rfl) ?_
  refine lv_iconst (v := 1) hx hb dL_law_401 (by decide) ?_
  refine lv_iadd hx hb dL_law_402 ?_
  refine lv_topi (fun v1970 ev1970 => ?_)
  obtain rfl : v1970 = nI (7 * k + 1) := ev1970.trans (nI_add (7 * k) 1)
  refine va_sld hx hb hX hbl hbA hS (nI_in (by omega) (by omega)) dL_law_403 ?_
  refine W.eq (g2 := F0 m 404 ls [.int (xs (7 * k + 1)), .ref (w 0)]) (by rw [nI_clamp (by omega)]) ?_
  refine lv_aload_n hx hb dL_law_404 rfl (lv_at hl 3 rfl) ?_
  refine lv_iload_n hx hb dL_law_405 rfl (lv_at hl 0 rfl) ?_
  refine lv_iconst (v := 2) hx hb dL_law_406 (by decide) ?_
  refine lv_iadd hx hb dL_law_407 ?_
  refine lv_topi (fun v1971 ev1971 => ?_)
  obtain rfl : v1971 = nI (7 * k + 2) := ev1971.trans (nI_add (7 * k) 2)
  refine va_sld hx hb hX hbl hbA hS (nI_in (by omega) (by omega)) dL_law_408 ?_
  refine W.eq (g2 := F0 m 409 ls [.int (xs (7 * k + 2)), .int (xs (7 * k + 1)), .ref (w 0)]) (by rw [nI_clamp (by omega)]) ?_
  obtain ⟨j1973, hj1973⟩ := wG_7 (cy := cz) (N := Nm) (T := Tm) (I := Im) (Q := Qm) (J := Jm) (hM.at 0 (by decide)) (hM.k 0 (by decide) rfl)
  have hPs := xswapP hP
  have hDs := xswapD hD
  have hFc := xfree (xD_l hDs) hS hA
  refine va_calli (va_runV (As := [.int (xs (7 * k + 1)), .int (xs (7 * k + 2))]) (rest := []) ⟨hx, hb, hml, hown, hts⟩ (f_X7_follow l dC dI cz w Lm Km Nm Tm Qm Im Jm H.size (5 * (k : Int)) (xs (7 * k + 1)) (xs (7 * k + 2)) σ hM hI (by omega) hMR) (cwV 2 hts gL_law_X7_follow rfl rfl rfl (by decide +kernel) ⟨Nat.le_of_ble_eq_true rfl, Nat.le_of_ble_eq_true rfl⟩) ⟨mw_blind, va_recv hKm (xP_r hP) (ci := 7) (q0 := j1973) rfl hj1973, fun U hU hW => ⟨rfl, mw_pre (xP_r hP) hKm (xD_r hD) hU hW⟩⟩ rfl rfl hl.1 rfl (lv_room (Nat.le_of_ble_eq_true rfl)) dL_law_409 ⟨show (79 + 12 * k + 0) + 0 ≤ 600000 by omega, show (13150 + 346 * k + 0) + 0 ≤ 7302250 by omega⟩) hS (fun q _ h => hFc q h) hFc (fun r1972 d9 t H locs ht hvm hr1972 hB9 hz1 hk1 hS => ?_)
  obtain ⟨Im, Jm⟩ := d9
  obtain ⟨hP1, hK1, hD1⟩ := hB9
  rw [ht] at hP1
  have hP : va_P (dC, dI) vwCl (va_pl L (pF cy K N T I Q J) ++ va_pl Lm (wF cz Km Nm Tm Im Qm Jm)) H := va_P.app (xj_keep hPs hDs hk1) hP1
  have hD : va_D (fun q : Nat => s.heap.size ≤ q) (va_pl L (pF cy K N T I Q J) ++ va_pl Lm (wF cz Km Nm Tm Im Qm Jm)) := xswapD (xj_D hPs hDs hD1 hFc)
  have hI : MI w (5 * (k : Int) + 5) Im Jm := hr1972.1
  obtain ⟨hMR2, hr7⟩ := hr1972.2
  have hMR2 : MR w Im Jm (qFo σ (xs (7 * k + 1)) (xs (7 * k + 2))).1 := hMR2
  have hr7 : r1972 = (qFo σ (xs (7 * k + 1)) (xs (7 * k + 2))).2 := hr7
  refine lv_pop hx hb dL_law_412 rfl ?_
  refine lv_goto (tgt := 1052) hx hb dL_law_413 (by decide) ?_
  refine W.widen (k := 79 + 12 * (k + 1)) (n := 13150 + 346 * (k + 1)) (by omega) (by omega) ?_
  exact hT L K T I Q J Im Jm H locs ls ⟨hC, hI.mono (by omega), ⟨pa, ra, _, hE2, hMR2, hSK.fo hLA (by omega) (xs (7 * k + 1)) (xs (7 * k + 2))⟩, hP, hD⟩ hS hl
