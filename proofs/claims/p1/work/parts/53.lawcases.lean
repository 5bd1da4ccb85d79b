theorem xP_l {D : va_G} {cl : List vw_C} {a b : va_W} {H : Heap} (h : va_P D cl (a ++ b) H) : va_P D cl a H := fun k q hk => h k q (by rw [List.getElem?_append_left (List.getElem?_eq_some_iff.mp hk).1]; exact hk)
theorem xP_r {D : va_G} {cl : List vw_C} {a b : va_W} {H : Heap} (h : va_P D cl (a ++ b) H) : va_P D cl b H := fun k q hk => h (a.length + k) q (by rw [List.getElem?_append_right (Nat.le_add_right _ _), Nat.add_sub_cancel_left]; exact hk)
theorem xD_l {A : Nat → Prop} {a b : va_W} (h : va_D A (a ++ b)) : va_D A a := by
  have up : ∀ (k : Nat) (q : Nat × va_E), a[k]? = some q → (a ++ b)[k]? = some q := fun k q hk => by rw [List.getElem?_append_left (List.getElem?_eq_some_iff.mp hk).1]; exact hk
  exact ⟨fun i j x y hi hj hxy => h.1 i j x y (up i x hi) (up j y hj) hxy, fun k q hk => h.2 k q (up k q hk)⟩
theorem xD_r {A : Nat → Prop} {a b : va_W} (h : va_D A (a ++ b)) : va_D A b := by
  have up : ∀ (k : Nat) (q : Nat × va_E), b[k]? = some q → (a ++ b)[a.length + k]? = some q := fun k q hk => by rw [List.getElem?_append_right (Nat.le_add_right _ _), Nat.add_sub_cancel_left]; exact hk
  refine ⟨fun i j x y hi hj hxy => ?_, fun k q hk => h.2 _ q (up k q hk)⟩
  have := h.1 _ _ x y (up i x hi) (up j y hj) hxy
  omega
theorem xj_keep {D : va_G} {cl : List vw_C} {A : Nat → Prop} {a b : va_W} {H H1 : Heap} (hP : va_P D cl (a ++ b) H) (hD : va_D A (a ++ b)) (hk : ∀ q : Nat, q < H.size → ¬ va_A a H.size q → H1[q]? = H[q]?) : va_P D cl b H1 := by
  intro k q hq
  have h1 := xP_r hP k q hq
  refine h1.kept (hk q.1 h1.lt (fun h => ?_))
  rcases h with ⟨i, e, hi⟩ | h
  · have hil := (List.getElem?_eq_some_iff.mp hi).1
    have := hD.1 i (a.length + k) (q.1, e) q (by rw [List.getElem?_append_left hil]; exact hi) (by rw [List.getElem?_append_right (Nat.le_add_right _ _), Nat.add_sub_cancel_left]; exact hq) rfl
    omega
  · have := h1.lt
    omega
theorem xfree {A : Nat → Prop} {a : va_W} {H0 H : Heap} {locs : List Loc} (hD : va_D A a) (hS : va_S A H0 H locs) (hA : ∀ q, H0.size ≤ q → A q) : ∀ q, va_A a H.size q → A q := by
  intro q h
  rcases h with ⟨k, e, h⟩ | h
  · exact hD.2 k (q, e) h
  · exact hA q (Nat.le_trans hS.1 h)
theorem xL7 : ∀ L, L < 7 → Int32.ofNat L - 7 < 0 := by decide +kernel
set_option maxHeartbeats 4000000 in
set_option maxRecDepth 100000 in
/-- behind a case: seven ints are read, the script ends, the answer is true -/
theorem lw_tail {p : Program} {e : Env} {s : State} {m : MethodId} {below : List Frame} {meth : Method} {c : Code} (l : Launch) {b : Nat} {xs : Nat → Int32} (C0 : lw_At p s m meth c b 7 xs) {x2 x1 : Nat} (H : Heap) (locs : List Loc) (hS : va_S (fun q : Nat => s.heap.size ≤ q) s.heap H locs) (ls : Array Slot) (hl : lv_has ls 4 [(3, .int 0), (2, .ref x2), (1, .ref x1), (0, .ref b)]) (k n : Nat) (hk : k ≤ 600000) (hn : n ≤ 7302250) : W p l e room_1 s m #[Value.ref b] below meth c H locs k n (lw_Z below #[Value.ref b] s) (F0 m 1053 ls []) := by
  obtain ⟨hx, hb, hr, hml, hown, hts0, hX, hbl, hlocks, hgv⟩ := id C0
  have hbA : ¬ (fun q : Nat => s.heap.size ≤ q) b := Nat.not_le.mpr hbl
  refine lv_iinc (v := 7) (lv' := [(3, .int 7), (2, .ref x2), (1, .ref x1), (0, .ref b)]) hx hb dL_law_1053 hl (k := 0) rfl (by decide) (by decide) rfl (fun ls hl => ?_)
  refine lv_goto (tgt := 18) hx hb dL_law_1056 (by decide) ?_
  refine lv_iload_n hx hb dL_law_18 rfl (lv_at hl 0 rfl) ?_
  refine lv_aload_n hx hb dL_law_19 rfl (lv_at hl 3 rfl) ?_
  refine va_slen hx hb hX hbl hbA hS dL_law_20 ?_
  refine lv_bipush (v := 7) hx hb dL_law_21 (by decide) ?_
  refine lv_isub hx hb dL_law_23 ?_
  refine lv_topi (fun v1 ev1 => ?_)
  obtain rfl : v1 = (0 : Int32) := ev1.trans (by decide)
  refine lv_icmp_gt (tgt := 1059) hx hb dL_law_24 (by decide) (fun c1 => ?_) (fun c1 => ?_)
  · refine lv_iconst (v := 1) hx hb dL_law_1059 (by decide) ?_
    refine va_forget (fun q hq => hS.2.2 q hq) ?_
    refine W.widen (k := 600000) (n := 7302250) hk hn ?_
    exact lw_ret hx hb hr hlocks dL_law_1060
  · exact absurd (by decide) c1
set_option maxHeartbeats 4000000 in
set_option maxRecDepth 100000 in
theorem lw_c0 {p : Program} {e : Env} {s : State} {m : MethodId} {below : List Frame} {meth : Method} {c : Code} (l : Launch) {b : Nat} {xs : Nat → Int32} (C0 : lw_At p s m meth c b 7 xs) {dC : Nat → ClassId} {dI : Nat → Nat → Nat} {v : Nat → Nat} {cy : Nat → ClassId} {w u : Nat → Nat} {cz ci cO cW : ClassId} (hKx : va_K (dC, dI) vwCl (fxT cy) s) (hKm : va_K (dC, dI) vwCl (mxT2 cz ci cO cW) s) (H : Heap) (locs : List Loc) (hP : va_P (dC, dI) vwCl (fxW v cy ++ (mxW w cz ci ++ lgW w u cO cW)) H) (hD : va_D (fun q : Nat => s.heap.size ≤ q) (fxW v cy ++ (mxW w cz ci ++ lgW w u cO cW))) (hS : va_S (fun q : Nat => s.heap.size ≤ q) s.heap H locs) (ls : Array Slot) (hl : lv_has ls 4 [(3, .int 0), (2, .ref (w 0)), (1, .ref (v 0)), (0, .ref b)]) : W p l e room_1 s m #[Value.ref b] below meth c H locs 79 13150 (lw_Z below #[Value.ref b] s) (F0 m 144 ls []) := by
  obtain ⟨hx, hb, hr, hml, hown, hts0, hX, hbl, hlocks, hgv⟩ := id C0
  have hown : s.vm.findClass RL = some m.cls := hown
  have hts : ∀ w ∈ wsL_law, w.before #[Value.ref b] s = true := fun w h => hts0 w (wsL_law_in w h)
  have hA : ∀ q : Nat, s.heap.size ≤ q → (fun q : Nat => s.heap.size ≤ q) q := fun _ h => h
  have hbA : ¬ (fun q : Nat => s.heap.size ≤ q) b := Nat.not_le.mpr hbl
  have hKm0 : va_K (dC, dI) vwCl (mxT cz ci) s := hKm.sub [0, 1] rfl
  have hPm := xP_r hP
  have hDm := xD_r hD
  refine lv_aload_n hx hb dL_law_144 rfl (lv_at hl 2 rfl) ?_
  refine lv_aload_n hx hb dL_law_145 rfl (lv_at hl 3 rfl) ?_
  refine lv_iload_n hx hb dL_law_146 rfl (lv_at hl 0 rfl) ?_
  refine lv_iconst (v := 1) hx hb dL_law_147 (by decide) ?_
  refine lv_iadd hx hb dL_law_148 ?_
  refine lv_topi (fun v597 ev597 => ?_)
  obtain rfl : v597 = (1 : Int32) := ev597.trans (by decide)
  refine va_sld hx hb hX hbl hbA hS (by unfold vp_in; decide) dL_law_149 ?_
  refine W.eq (g2 := F0 m 150 ls [.int (xs 1), .ref (v 0)]) rfl ?_
  refine lv_aload_n hx hb dL_law_150 rfl (lv_at hl 3 rfl) ?_
  refine lv_iload_n hx hb dL_law_151 rfl (lv_at hl 0 rfl) ?_
  refine lv_iconst (v := 2) hx hb dL_law_152 (by decide) ?_
  refine lv_iadd hx hb dL_law_153 ?_
  refine lv_topi (fun v598 ev598 => ?_)
  obtain rfl : v598 = (2 : Int32) := ev598.trans (by decide)
  refine va_sld hx hb hX hbl hbA hS (by unfold vp_in; decide) dL_law_154 ?_
  refine W.eq (g2 := F0 m 155 ls [.int (xs 2), .int (xs 1), .ref (v 0)]) rfl ?_
  refine lv_aload_n hx hb dL_law_155 rfl (lv_at hl 3 rfl) ?_
  refine lv_iload_n hx hb dL_law_156 rfl (lv_at hl 0 rfl) ?_
  refine lv_iconst (v := 3) hx hb dL_law_157 (by decide) ?_
  refine lv_iadd hx hb dL_law_158 ?_
  refine lv_topi (fun v599 ev599 => ?_)
  obtain rfl : v599 = (3 : Int32) := ev599.trans (by decide)
  refine va_sld hx hb hX hbl hbA hS (by unfold vp_in; decide) dL_law_159 ?_
  refine W.eq (g2 := F0 m 160 ls [.int (xs 3), .int (xs 2), .int (xs 1), .ref (v 0)]) rfl ?_
  have hoR4 : va_AO "TallyLogs$Replica" s := va_AO.of (hts0 (.arrayOver (.object "TallyLogs$Replica")) (List.mem_of_getElem? (i := 122) rfl))
  have ho4 : va_AO "TallyLogs$Entry" s := va_AO.of (hts0 (.arrayOver (.object "TallyLogs$Entry")) (List.mem_of_getElem? (i := 136) rfl))
  have hn30 : va_Nw (.methodLinkNest RX2 30 yX5_leastOf "TallyLogs") s := va_Nw.of rfl (hts0 (.methodLinkNest RX2 30 yX5_leastOf "TallyLogs") (List.mem_of_getElem? (i := 123) rfl))
  have hn37 : va_Nw (.methodLinkNest RX2 37 yX5_contains "TallyLogs") s := va_Nw.of rfl (hts0 (.methodLinkNest RX2 37 yX5_contains "TallyLogs") (List.mem_of_getElem? (i := 129) rfl))
  have hFc := xfree (xD_l hD) hS hA
  refine va_calli (va_runV (As := [.int (xs 1), .int (xs 2), .int (xs 3)]) (rest := []) ⟨hx, hb, hml, hown, hts⟩ (c_X5_create l dC dI v cy H.size (xs 1) (xs 2) (xs 3)) (cwV 3 hts gL_law_X5_create rfl rfl rfl (by decide +kernel) ⟨Nat.le_of_ble_eq_true rfl, Nat.le_of_ble_eq_true rfl⟩) ⟨fun a U g mk q => by obtain ⟨q0, q1, ⟨qP, qK⟩, qD, qo1, qo2, qn1, qn2⟩ := q; exact ⟨q0, q1, ⟨qP, va_K.moved (u := U) (U := U.calling g mk a) (Vm.Alike.refl U.vm) qK⟩, qD, va_AO.moved (u := U) (U := U.calling g mk a) (Vm.Alike.refl U.vm) qo1, va_AO.moved (u := U) (U := U.calling g mk a) (Vm.Alike.refl U.vm) qo2, va_Nw.same rfl (rfl : U.vm = (U.calling g mk a).vm) qn1, va_Nw.same rfl (rfl : U.vm = (U.calling g mk a).vm) qn2⟩, va_recv hKx (xP_l hP) (ci := 5) (q0 := 0) rfl rfl, fun U hU hW => ⟨rfl, by rw [hU], fx_pre (xP_l hP) hKx hU hW, (xD_l hD).weaken (fun _ _ _ _ => trivial), va_AO.moved hW.alike hoR4, va_AO.moved hW.alike ho4, va_Nw.warmM hW hn30, va_Nw.warmM hW hn37⟩⟩ rfl rfl hl.1 rfl (lv_room (Nat.le_of_ble_eq_true rfl)) dL_law_160 ⟨Nat.le_of_ble_eq_true rfl, Nat.le_of_ble_eq_true rfl⟩) hS (fun q _ h => hFc q h) hFc (fun r600 u9 t H1 locs ht hvm hr600 hB hz1 hk1 hS => ?_)
  have hPm := xj_keep hP hD hk1
  generalize H1 = H at hPm hS ⊢
  refine lv_aload_n hx hb dL_law_163 rfl (lv_at hl 1 rfl) ?_
  refine lv_aload_n hx hb dL_law_164 rfl (lv_at hl 3 rfl) ?_
  refine lv_iload_n hx hb dL_law_165 rfl (lv_at hl 0 rfl) ?_
  refine lv_iconst (v := 1) hx hb dL_law_166 (by decide) ?_
  refine lv_iadd hx hb dL_law_167 ?_
  refine lv_topi (fun v601 ev601 => ?_)
  obtain rfl : v601 = (1 : Int32) := ev601.trans (by decide)
  refine va_sld hx hb hX hbl hbA hS (by unfold vp_in; decide) dL_law_168 ?_
  refine W.eq (g2 := F0 m 169 ls [.int (xs 1), .ref (w 0), .int r600]) rfl ?_
  refine lv_aload_n hx hb dL_law_169 rfl (lv_at hl 3 rfl) ?_
  refine lv_iload_n hx hb dL_law_170 rfl (lv_at hl 0 rfl) ?_
  refine lv_iconst (v := 2) hx hb dL_law_171 (by decide) ?_
  refine lv_iadd hx hb dL_law_172 ?_
  refine lv_topi (fun v602 ev602 => ?_)
  obtain rfl : v602 = (2 : Int32) := ev602.trans (by decide)
  refine va_sld hx hb hX hbl hbA hS (by unfold vp_in; decide) dL_law_173 ?_
  refine W.eq (g2 := F0 m 174 ls [.int (xs 2), .int (xs 1), .ref (w 0), .int r600]) rfl ?_
  refine lv_aload_n hx hb dL_law_174 rfl (lv_at hl 3 rfl) ?_
  refine lv_iload_n hx hb dL_law_175 rfl (lv_at hl 0 rfl) ?_
  refine lv_iconst (v := 3) hx hb dL_law_176 (by decide) ?_
  refine lv_iadd hx hb dL_law_177 ?_
  refine lv_topi (fun v603 ev603 => ?_)
  obtain rfl : v603 = (3 : Int32) := ev603.trans (by decide)
  refine va_sld hx hb hX hbl hbA hS (by unfold vp_in; decide) dL_law_178 ?_
  refine W.eq (g2 := F0 m 179 ls [.int (xs 3), .int (xs 2), .int (xs 1), .ref (w 0), .int r600]) rfl ?_
  have hFc := xfree hDm hS hA
  refine va_calli (va_runV (As := [.int (xs 1), .int (xs 2), .int (xs 3)]) (rest := [.int r600]) ⟨hx, hb, hml, hown, hts⟩ (c_X7_create l dC dI w cz ci u cO cW H.size (xs 1) (xs 2) (xs 3)) (cwV 3 hts gL_law_X7_create rfl rfl rfl (by decide +kernel) ⟨Nat.le_of_ble_eq_true rfl, Nat.le_of_ble_eq_true rfl⟩) ⟨fun a U g mk q => by obtain ⟨q0, q1, ⟨qP, qK⟩, qD⟩ := q; exact ⟨q0, q1, ⟨qP, va_K.moved (u := U) (U := U.calling g mk a) (Vm.Alike.refl U.vm) qK⟩, qD⟩, va_recv hKm hPm (ci := 7) (q0 := 0) rfl rfl, fun U hU hW => ⟨rfl, by rw [hU], ⟨by rw [hU]; exact hPm, va_K.moved hW.alike hKm⟩, hDm.weaken (fun _ _ _ _ => trivial)⟩⟩ rfl rfl hl.1 rfl (lv_room (Nat.le_of_ble_eq_true rfl)) dL_law_179 ⟨Nat.le_of_ble_eq_true rfl, Nat.le_of_ble_eq_true rfl⟩) hS (fun q _ h => hFc q h) hFc (fun r604 u9 t H1 locs ht hvm hr604 hB hz1 hk1 hS => ?_)
  generalize H1 = H at hS ⊢
  refine lv_icmp_eq (tgt := 1053) hx hb dL_law_182 (by decide) (fun c605 => ?_) (fun c605 => ?_)
  · exact lw_tail l C0 H locs hS ls hl 91 13496 (by decide) (by decide)
  · exact absurd (hr600.trans hr604.symm) c605
set_option maxHeartbeats 4000000 in
set_option maxRecDepth 100000 in
theorem lw_c1 {p : Program} {e : Env} {s : State} {m : MethodId} {below : List Frame} {meth : Method} {c : Code} (l : Launch) {b : Nat} {xs : Nat → Int32} (C0 : lw_At p s m meth c b 7 xs) {dC : Nat → ClassId} {dI : Nat → Nat → Nat} {v : Nat → Nat} {cy : Nat → ClassId} {w u : Nat → Nat} {cz ci cO cW : ClassId} (hKx : va_K (dC, dI) vwCl (fxT cy) s) (hKm : va_K (dC, dI) vwCl (mxT2 cz ci cO cW) s) (H : Heap) (locs : List Loc) (hP : va_P (dC, dI) vwCl (fxW v cy ++ (mxW w cz ci ++ lgW w u cO cW)) H) (hD : va_D (fun q : Nat => s.heap.size ≤ q) (fxW v cy ++ (mxW w cz ci ++ lgW w u cO cW))) (hS : va_S (fun q : Nat => s.heap.size ≤ q) s.heap H locs) (ls : Array Slot) (hl : lv_has ls 4 [(3, .int 0), (2, .ref (w 0)), (1, .ref (v 0)), (0, .ref b)]) : W p l e room_1 s m #[Value.ref b] below meth c H locs 79 13150 (lw_Z below #[Value.ref b] s) (F0 m 187 ls []) := by
  obtain ⟨hx, hb, hr, hml, hown, hts0, hX, hbl, hlocks, hgv⟩ := id C0
  have hown : s.vm.findClass RL = some m.cls := hown
  have hts : ∀ w ∈ wsL_law, w.before #[Value.ref b] s = true := fun w h => hts0 w (wsL_law_in w h)
  have hA : ∀ q : Nat, s.heap.size ≤ q → (fun q : Nat => s.heap.size ≤ q) q := fun _ h => h
  have hbA : ¬ (fun q : Nat => s.heap.size ≤ q) b := Nat.not_le.mpr hbl
  have hKm0 : va_K (dC, dI) vwCl (mxT cz ci) s := hKm.sub [0, 1] rfl
  have hPm := xP_r hP
  have hDm := xD_r hD
  refine lv_aload_n hx hb dL_law_187 rfl (lv_at hl 2 rfl) ?_
  refine lv_aload_n hx hb dL_law_188 rfl (lv_at hl 3 rfl) ?_
  refine lv_iload_n hx hb dL_law_189 rfl (lv_at hl 0 rfl) ?_
  refine lv_iconst (v := 1) hx hb dL_law_190 (by decide) ?_
  refine lv_iadd hx hb dL_law_191 ?_
  refine lv_topi (fun v606 ev606 => ?_)
  obtain rfl : v606 = (1 : Int32) := ev606.trans (by decide)
  refine va_sld hx hb hX hbl hbA hS (by unfold vp_in; decide) dL_law_192 ?_
  refine W.eq (g2 := F0 m 193 ls [.int (xs 1), .ref (v 0)]) rfl ?_
  refine lv_aload_n hx hb dL_law_193 rfl (lv_at hl 3 rfl) ?_
  refine lv_iload_n hx hb dL_law_194 rfl (lv_at hl 0 rfl) ?_
  refine lv_iconst (v := 2) hx hb dL_law_195 (by decide) ?_
  refine lv_iadd hx hb dL_law_196 ?_
  refine lv_topi (fun v607 ev607 => ?_)
  obtain rfl : v607 = (2 : Int32) := ev607.trans (by decide)
  refine va_sld hx hb hX hbl hbA hS (by unfold vp_in; decide) dL_law_197 ?_
  refine W.eq (g2 := F0 m 198 ls [.int (xs 2), .int (xs 1), .ref (v 0)]) rfl ?_
  refine lv_if_eq (tgt := 205) hx hb dL_law_198 (by decide) (fun c608 => ?_) (fun c608 => ?_)
  · refine lv_iconst (v := 0) hx hb dL_law_205 (by decide) ?_
    refine vp_callSi (W.runV (As := [.int (xs 1), .int 0]) (rest := []) ⟨hx, hb, hml, hown, hts⟩ (c_X5_elect l dC dI v cy (xs 1) 0) (cwV 2 hts gL_law_X5_elect rfl rfl rfl (by decide +kernel) ⟨Nat.le_of_ble_eq_true rfl, Nat.le_of_ble_eq_true rfl⟩) ⟨fx_blind, va_recv hKx (xP_l hP) (ci := 5) (q0 := 0) rfl rfl, fun U hU hW => ⟨rfl, fx_pre (xP_l hP) hKx hU hW⟩⟩ rfl rfl hl.1 rfl (lv_room (Nat.le_of_ble_eq_true rfl)) dL_law_206 ⟨Nat.le_of_ble_eq_true rfl, Nat.le_of_ble_eq_true rfl⟩) (fun r609 hr609 => ?_)
    refine lv_aload_n hx hb dL_law_209 rfl (lv_at hl 1 rfl) ?_
    refine lv_aload_n hx hb dL_law_210 rfl (lv_at hl 3 rfl) ?_
    refine lv_iload_n hx hb dL_law_211 rfl (lv_at hl 0 rfl) ?_
    refine lv_iconst (v := 1) hx hb dL_law_212 (by decide) ?_
    refine lv_iadd hx hb dL_law_213 ?_
    refine lv_topi (fun v610 ev610 => ?_)
    obtain rfl : v610 = (1 : Int32) := ev610.trans (by decide)
    refine va_sld hx hb hX hbl hbA hS (by unfold vp_in; decide) dL_law_214 ?_
    refine W.eq (g2 := F0 m 215 ls [.int (xs 1), .ref (w 0), .int r609]) rfl ?_
    refine lv_aload_n hx hb dL_law_215 rfl (lv_at hl 3 rfl) ?_
    refine lv_iload_n hx hb dL_law_216 rfl (lv_at hl 0 rfl) ?_
    refine lv_iconst (v := 2) hx hb dL_law_217 (by decide) ?_
    refine lv_iadd hx hb dL_law_218 ?_
    refine lv_topi (fun v611 ev611 => ?_)
    obtain rfl : v611 = (2 : Int32) := ev611.trans (by decide)
    refine va_sld hx hb hX hbl hbA hS (by unfold vp_in; decide) dL_law_219 ?_
    refine W.eq (g2 := F0 m 220 ls [.int (xs 2), .int (xs 1), .ref (w 0), .int r609]) rfl ?_
    refine lv_if_eq (tgt := 227) hx hb dL_law_220 (by decide) (fun c612 => ?_) (fun c612 => ?_)
    rotate_left
    · exact absurd c608 c612
    refine lv_iconst (v := 0) hx hb dL_law_227 (by decide) ?_
    refine vp_callSi (W.runV (As := [.int (xs 1), .int 0]) (rest := [.int r609]) ⟨hx, hb, hml, hown, hts⟩ (c_X7_elect l dC dI w cz ci (xs 1) 0) (cwV 2 hts gL_law_X7_elect rfl rfl rfl (by decide +kernel) ⟨Nat.le_of_ble_eq_true rfl, Nat.le_of_ble_eq_true rfl⟩) ⟨mx_blind, va_recv hKm0 (xP_l hPm) (ci := 7) (q0 := 0) rfl rfl, fun U hU hW => ⟨rfl, mx_pre (xP_l hPm) hKm0 hU hW⟩⟩ rfl rfl hl.1 rfl (lv_room (Nat.le_of_ble_eq_true rfl)) dL_law_228 ⟨Nat.le_of_ble_eq_true rfl, Nat.le_of_ble_eq_true rfl⟩) (fun r613 hr613 => ?_)
    refine lv_icmp_eq (tgt := 1053) hx hb dL_law_231 (by decide) (fun c614 => ?_) (fun c614 => ?_)
    · exact lw_tail l C0 H locs hS ls hl 79 13150 (by decide) (by decide)
    · exact absurd (hr609.trans hr613.symm) c614
  · refine lv_iconst (v := 1) hx hb dL_law_201 (by decide) ?_
    refine lv_goto (tgt := 206) hx hb dL_law_202 (by decide) ?_
    refine vp_callSi (W.runV (As := [.int (xs 1), .int 1]) (rest := []) ⟨hx, hb, hml, hown, hts⟩ (c_X5_elect l dC dI v cy (xs 1) 1) (cwV 2 hts gL_law_X5_elect rfl rfl rfl (by decide +kernel) ⟨Nat.le_of_ble_eq_true rfl, Nat.le_of_ble_eq_true rfl⟩) ⟨fx_blind, va_recv hKx (xP_l hP) (ci := 5) (q0 := 0) rfl rfl, fun U hU hW => ⟨rfl, fx_pre (xP_l hP) hKx hU hW⟩⟩ rfl rfl hl.1 rfl (lv_room (Nat.le_of_ble_eq_true rfl)) dL_law_206 ⟨Nat.le_of_ble_eq_true rfl, Nat.le_of_ble_eq_true rfl⟩) (fun r615 hr615 => ?_)
    refine lv_aload_n hx hb dL_law_209 rfl (lv_at hl 1 rfl) ?_
    refine lv_aload_n hx hb dL_law_210 rfl (lv_at hl 3 rfl) ?_
    refine lv_iload_n hx hb dL_law_211 rfl (lv_at hl 0 rfl) ?_
    refine lv_iconst (v := 1) hx hb dL_law_212 (by decide) ?_
    refine lv_iadd hx hb dL_law_213 ?_
    refine lv_topi (fun v616 ev616 => ?_)
    obtain rfl : v616 = (1 : Int32) := ev616.trans (by decide)
    refine va_sld hx hb hX hbl hbA hS (by unfold vp_in; decide) dL_law_214 ?_
    refine W.eq (g2 := F0 m 215 ls [.int (xs 1), .ref (w 0), .int r615]) rfl ?_
    refine lv_aload_n hx hb dL_law_215 rfl (lv_at hl 3 rfl) ?_
    refine lv_iload_n hx hb dL_law_216 rfl (lv_at hl 0 rfl) ?_
    refine lv_iconst (v := 2) hx hb dL_law_217 (by decide) ?_
    refine lv_iadd hx hb dL_law_218 ?_
    refine lv_topi (fun v617 ev617 => ?_)
    obtain rfl : v617 = (2 : Int32) := ev617.trans (by decide)
    refine va_sld hx hb hX hbl hbA hS (by unfold vp_in; decide) dL_law_219 ?_
    refine W.eq (g2 := F0 m 220 ls [.int (xs 2), .int (xs 1), .ref (w 0), .int r615]) rfl ?_
    refine lv_if_eq (tgt := 227) hx hb dL_law_220 (by decide) (fun c618 => ?_) (fun c618 => ?_)
    · exact absurd c618 c608
    refine lv_iconst (v := 1) hx hb dL_law_223 (by decide) ?_
    refine lv_goto (tgt := 228) hx hb dL_law_224 (by decide) ?_
    refine vp_callSi (W.runV (As := [.int (xs 1), .int 1]) (rest := [.int r615]) ⟨hx, hb, hml, hown, hts⟩ (c_X7_elect l dC dI w cz ci (xs 1) 1) (cwV 2 hts gL_law_X7_elect rfl rfl rfl (by decide +kernel) ⟨Nat.le_of_ble_eq_true rfl, Nat.le_of_ble_eq_true rfl⟩) ⟨mx_blind, va_recv hKm0 (xP_l hPm) (ci := 7) (q0 := 0) rfl rfl, fun U hU hW => ⟨rfl, mx_pre (xP_l hPm) hKm0 hU hW⟩⟩ rfl rfl hl.1 rfl (lv_room (Nat.le_of_ble_eq_true rfl)) dL_law_228 ⟨Nat.le_of_ble_eq_true rfl, Nat.le_of_ble_eq_true rfl⟩) (fun r619 hr619 => ?_)
    refine lv_icmp_eq (tgt := 1053) hx hb dL_law_231 (by decide) (fun c620 => ?_) (fun c620 => ?_)
    · exact lw_tail l C0 H locs hS ls hl 79 13150 (by decide) (by decide)
    · exact absurd (hr615.trans hr619.symm) c620
set_option maxHeartbeats 4000000 in
set_option maxRecDepth 100000 in
theorem lw_c2 {p : Program} {e : Env} {s : State} {m : MethodId} {below : List Frame} {meth : Method} {c : Code} (l : Launch) {b : Nat} {xs : Nat → Int32} (C0 : lw_At p s m meth c b 7 xs) {dC : Nat → ClassId} {dI : Nat → Nat → Nat} {v : Nat → Nat} {cy : Nat → ClassId} {w u : Nat → Nat} {cz ci cO cW : ClassId} (hKx : va_K (dC, dI) vwCl (fxT cy) s) (hKm : va_K (dC, dI) vwCl (mxT2 cz ci cO cW) s) (H : Heap) (locs : List Loc) (hP : va_P (dC, dI) vwCl (fxW v cy ++ (mxW w cz ci ++ lgW w u cO cW)) H) (hD : va_D (fun q : Nat => s.heap.size ≤ q) (fxW v cy ++ (mxW w cz ci ++ lgW w u cO cW))) (hS : va_S (fun q : Nat => s.heap.size ≤ q) s.heap H locs) (ls : Array Slot) (hl : lv_has ls 4 [(3, .int 0), (2, .ref (w 0)), (1, .ref (v 0)), (0, .ref b)]) : W p l e room_1 s m #[Value.ref b] below meth c H locs 79 13150 (lw_Z below #[Value.ref b] s) (F0 m 236 ls []) := by
  obtain ⟨hx, hb, hr, hml, hown, hts0, hX, hbl, hlocks, hgv⟩ := id C0
  have hown : s.vm.findClass RL = some m.cls := hown
  have hts : ∀ w ∈ wsL_law, w.before #[Value.ref b] s = true := fun w h => hts0 w (wsL_law_in w h)
  have hA : ∀ q : Nat, s.heap.size ≤ q → (fun q : Nat => s.heap.size ≤ q) q := fun _ h => h
  have hbA : ¬ (fun q : Nat => s.heap.size ≤ q) b := Nat.not_le.mpr hbl
  have hKm0 : va_K (dC, dI) vwCl (mxT cz ci) s := hKm.sub [0, 1] rfl
  have hPm := xP_r hP
  have hDm := xD_r hD
  refine lv_aload_n hx hb dL_law_236 rfl (lv_at hl 2 rfl) ?_
  refine lv_aload_n hx hb dL_law_237 rfl (lv_at hl 3 rfl) ?_
  refine lv_iload_n hx hb dL_law_238 rfl (lv_at hl 0 rfl) ?_
  refine lv_iconst (v := 1) hx hb dL_law_239 (by decide) ?_
  refine lv_iadd hx hb dL_law_240 ?_
  refine lv_topi (fun v621 ev621 => ?_)
  obtain rfl : v621 = (1 : Int32) := ev621.trans (by decide)
  refine va_sld hx hb hX hbl hbA hS (by unfold vp_in; decide) dL_law_241 ?_
  refine W.eq (g2 := F0 m 242 ls [.int (xs 1), .ref (v 0)]) rfl ?_
  have hFc := xfree (xD_l hD) hS hA
  refine va_calli (va_runV (As := [.int (xs 1)]) (rest := []) ⟨hx, hb, hml, hown, hts⟩ (c_X5_register l dC dI v cy H.size (xs 1)) (cwV 1 hts gL_law_X5_register rfl rfl rfl (by decide +kernel) ⟨Nat.le_of_ble_eq_true rfl, Nat.le_of_ble_eq_true rfl⟩) ⟨fun a U g mk q => by obtain ⟨q0, q1, ⟨qP, qK⟩, qD⟩ := q; exact ⟨q0, q1, ⟨qP, va_K.moved (u := U) (U := U.calling g mk a) (Vm.Alike.refl U.vm) qK⟩, qD⟩, va_recv hKx (xP_l hP) (ci := 5) (q0 := 0) rfl rfl, fun U hU hW => ⟨rfl, by rw [hU], fx_pre (xP_l hP) hKx hU hW, (xD_l hD).weaken (fun _ _ _ _ => trivial)⟩⟩ rfl rfl hl.1 rfl (lv_room (Nat.le_of_ble_eq_true rfl)) dL_law_242 ⟨Nat.le_of_ble_eq_true rfl, Nat.le_of_ble_eq_true rfl⟩) hS (fun q _ h => hFc q h) hFc (fun r622 u9 t H1 locs ht hvm hr622 hB hz1 hk1 hS => ?_)
  have hPm := xj_keep hP hD hk1
  generalize H1 = H at hPm hS ⊢
  refine lv_aload_n hx hb dL_law_245 rfl (lv_at hl 1 rfl) ?_
  refine lv_aload_n hx hb dL_law_246 rfl (lv_at hl 3 rfl) ?_
  refine lv_iload_n hx hb dL_law_247 rfl (lv_at hl 0 rfl) ?_
  refine lv_iconst (v := 1) hx hb dL_law_248 (by decide) ?_
  refine lv_iadd hx hb dL_law_249 ?_
  refine lv_topi (fun v623 ev623 => ?_)
  obtain rfl : v623 = (1 : Int32) := ev623.trans (by decide)
  refine va_sld hx hb hX hbl hbA hS (by unfold vp_in; decide) dL_law_250 ?_
  refine W.eq (g2 := F0 m 251 ls [.int (xs 1), .ref (w 0), .int r622]) rfl ?_
  have hFc := xfree (xD_l hDm) hS hA
  refine va_calli (va_runV (As := [.int (xs 1)]) (rest := [.int r622]) ⟨hx, hb, hml, hown, hts⟩ (c_X7_register l dC dI w cz ci H.size (xs 1)) (cwV 1 hts gL_law_X7_register rfl rfl rfl (by decide +kernel) ⟨Nat.le_of_ble_eq_true rfl, Nat.le_of_ble_eq_true rfl⟩) ⟨fun a U g mk q => by obtain ⟨q0, q1, ⟨qP, qK⟩, qD⟩ := q; exact ⟨q0, q1, ⟨qP, va_K.moved (u := U) (U := U.calling g mk a) (Vm.Alike.refl U.vm) qK⟩, qD⟩, va_recv hKm0 (xP_l hPm) (ci := 7) (q0 := 0) rfl rfl, fun U hU hW => ⟨rfl, by rw [hU], ⟨by rw [hU]; exact xP_l hPm, va_K.moved hW.alike hKm0⟩, (xD_l hDm).weaken (fun _ _ _ _ => trivial)⟩⟩ rfl rfl hl.1 rfl (lv_room (Nat.le_of_ble_eq_true rfl)) dL_law_251 ⟨Nat.le_of_ble_eq_true rfl, Nat.le_of_ble_eq_true rfl⟩) hS (fun q _ h => hFc q h) hFc (fun r624 u9 t H1 locs ht hvm hr624 hB hz1 hk1 hS => ?_)
  generalize H1 = H at hS ⊢
  refine lv_icmp_eq (tgt := 1053) hx hb dL_law_254 (by decide) (fun c625 => ?_) (fun c625 => ?_)
  · exact lw_tail l C0 H locs hS ls hl 79 13150 (by decide) (by decide)
  · exact absurd (hr622.trans hr624.symm) c625
set_option maxHeartbeats 4000000 in
set_option maxRecDepth 100000 in
theorem lw_c3 {p : Program} {e : Env} {s : State} {m : MethodId} {below : List Frame} {meth : Method} {c : Code} (l : Launch) {b : Nat} {xs : Nat → Int32} (C0 : lw_At p s m meth c b 7 xs) {dC : Nat → ClassId} {dI : Nat → Nat → Nat} {v : Nat → Nat} {cy : Nat → ClassId} {w u : Nat → Nat} {cz ci cO cW : ClassId} (hKx : va_K (dC, dI) vwCl (fxT cy) s) (hKm : va_K (dC, dI) vwCl (mxT2 cz ci cO cW) s) (H : Heap) (locs : List Loc) (hP : va_P (dC, dI) vwCl (fxW v cy ++ (mxW w cz ci ++ lgW w u cO cW)) H) (hD : va_D (fun q : Nat => s.heap.size ≤ q) (fxW v cy ++ (mxW w cz ci ++ lgW w u cO cW))) (hS : va_S (fun q : Nat => s.heap.size ≤ q) s.heap H locs) (ls : Array Slot) (hl : lv_has ls 4 [(3, .int 0), (2, .ref (w 0)), (1, .ref (v 0)), (0, .ref b)]) : W p l e room_1 s m #[Value.ref b] below meth c H locs 79 13150 (lw_Z below #[Value.ref b] s) (F0 m 259 ls []) := by
  obtain ⟨hx, hb, hr, hml, hown, hts0, hX, hbl, hlocks, hgv⟩ := id C0
  have hown : s.vm.findClass RL = some m.cls := hown
  have hts : ∀ w ∈ wsL_law, w.before #[Value.ref b] s = true := fun w h => hts0 w (wsL_law_in w h)
  have hA : ∀ q : Nat, s.heap.size ≤ q → (fun q : Nat => s.heap.size ≤ q) q := fun _ h => h
  have hbA : ¬ (fun q : Nat => s.heap.size ≤ q) b := Nat.not_le.mpr hbl
  have hKm0 : va_K (dC, dI) vwCl (mxT cz ci) s := hKm.sub [0, 1] rfl
  have hPm := xP_r hP
  have hDm := xD_r hD
  refine lv_aload_n hx hb dL_law_259 rfl (lv_at hl 2 rfl) ?_
  refine lv_aload_n hx hb dL_law_260 rfl (lv_at hl 3 rfl) ?_
  refine lv_iload_n hx hb dL_law_261 rfl (lv_at hl 0 rfl) ?_
  refine lv_iconst (v := 1) hx hb dL_law_262 (by decide) ?_
  refine lv_iadd hx hb dL_law_263 ?_
  refine lv_topi (fun v626 ev626 => ?_)
  obtain rfl : v626 = (1 : Int32) := ev626.trans (by decide)
  refine va_sld hx hb hX hbl hbA hS (by unfold vp_in; decide) dL_law_264 ?_
  refine W.eq (g2 := F0 m 265 ls [.int (xs 1), .ref (v 0)]) rfl ?_
  refine lv_aload_n hx hb dL_law_265 rfl (lv_at hl 3 rfl) ?_
  refine lv_iload_n hx hb dL_law_266 rfl (lv_at hl 0 rfl) ?_
  refine lv_iconst (v := 2) hx hb dL_law_267 (by decide) ?_
  refine lv_iadd hx hb dL_law_268 ?_
  refine lv_topi (fun v627 ev627 => ?_)
  obtain rfl : v627 = (2 : Int32) := ev627.trans (by decide)
  refine va_sld hx hb hX hbl hbA hS (by unfold vp_in; decide) dL_law_269 ?_
  refine W.eq (g2 := F0 m 270 ls [.int (xs 2), .int (xs 1), .ref (v 0)]) rfl ?_
  refine lv_aload_n hx hb dL_law_270 rfl (lv_at hl 3 rfl) ?_
  refine lv_iload_n hx hb dL_law_271 rfl (lv_at hl 0 rfl) ?_
  refine lv_iconst (v := 3) hx hb dL_law_272 (by decide) ?_
  refine lv_iadd hx hb dL_law_273 ?_
  refine lv_topi (fun v628 ev628 => ?_)
  obtain rfl : v628 = (3 : Int32) := ev628.trans (by decide)
  refine va_sld hx hb hX hbl hbA hS (by unfold vp_in; decide) dL_law_274 ?_
  refine W.eq (g2 := F0 m 275 ls [.int (xs 3), .int (xs 2), .int (xs 1), .ref (v 0)]) rfl ?_
  refine lv_aload_n hx hb dL_law_275 rfl (lv_at hl 3 rfl) ?_
  refine lv_iload_n hx hb dL_law_276 rfl (lv_at hl 0 rfl) ?_
  refine lv_iconst (v := 4) hx hb dL_law_277 (by decide) ?_
  refine lv_iadd hx hb dL_law_278 ?_
  refine lv_topi (fun v629 ev629 => ?_)
  obtain rfl : v629 = (4 : Int32) := ev629.trans (by decide)
  refine va_sld hx hb hX hbl hbA hS (by unfold vp_in; decide) dL_law_279 ?_
  refine W.eq (g2 := F0 m 280 ls [.int (xs 4), .int (xs 3), .int (xs 2), .int (xs 1), .ref (v 0)]) rfl ?_
  refine lv_aload_n hx hb dL_law_280 rfl (lv_at hl 3 rfl) ?_
  refine lv_iload_n hx hb dL_law_281 rfl (lv_at hl 0 rfl) ?_
  refine lv_iconst (v := 5) hx hb dL_law_282 (by decide) ?_
  refine lv_iadd hx hb dL_law_283 ?_
  refine lv_topi (fun v630 ev630 => ?_)
  obtain rfl : v630 = (5 : Int32) := ev630.trans (by decide)
  refine va_sld hx hb hX hbl hbA hS (by unfold vp_in; decide) dL_law_284 ?_
  refine W.eq (g2 := F0 m 285 ls [.int (xs 5), .int (xs 4), .int (xs 3), .int (xs 2), .int (xs 1), .ref (v 0)]) rfl ?_
  refine lv_aload_n hx hb dL_law_285 rfl (lv_at hl 3 rfl) ?_
  refine lv_iload_n hx hb dL_law_286 rfl (lv_at hl 0 rfl) ?_
  refine lv_bipush (v := 6) hx hb dL_law_287 (by decide) ?_
  refine lv_iadd hx hb dL_law_289 ?_
  refine lv_topi (fun v631 ev631 => ?_)
  obtain rfl : v631 = (6 : Int32) := ev631.trans (by decide)
  refine va_sld hx hb hX hbl hbA hS (by unfold vp_in; decide) dL_law_290 ?_
  refine W.eq (g2 := F0 m 291 ls [.int (xs 6), .int (xs 5), .int (xs 4), .int (xs 3), .int (xs 2), .int (xs 1), .ref (v 0)]) rfl ?_
  refine lv_if_eq (tgt := 298) hx hb dL_law_291 (by decide) (fun c632 => ?_) (fun c632 => ?_)
  · refine lv_iconst (v := 0) hx hb dL_law_298 (by decide) ?_
    refine vp_callSi (W.runV (As := [.int (xs 1), .int (xs 2), .int (xs 3), .int (xs 4), .int (xs 5), .int 0]) (rest := []) ⟨hx, hb, hml, hown, hts⟩ (c_X5_produce l dC dI v cy (xs 1) (xs 2) (xs 3) (xs 4) (xs 5) 0) (cwV 6 hts gL_law_X5_produce rfl rfl rfl (by decide +kernel) ⟨Nat.le_of_ble_eq_true rfl, Nat.le_of_ble_eq_true rfl⟩) ⟨fx_blind, va_recv hKx (xP_l hP) (ci := 5) (q0 := 0) rfl rfl, fun U hU hW => ⟨rfl, fx_pre (xP_l hP) hKx hU hW⟩⟩ rfl rfl hl.1 rfl (lv_room (Nat.le_of_ble_eq_true rfl)) dL_law_299 ⟨Nat.le_of_ble_eq_true rfl, Nat.le_of_ble_eq_true rfl⟩) (fun r633 hr633 => ?_)
    refine lv_aload_n hx hb dL_law_302 rfl (lv_at hl 1 rfl) ?_
    refine lv_aload_n hx hb dL_law_303 rfl (lv_at hl 3 rfl) ?_
    refine lv_iload_n hx hb dL_law_304 rfl (lv_at hl 0 rfl) ?_
    refine lv_iconst (v := 1) hx hb dL_law_305 (by decide) ?_
    refine lv_iadd hx hb dL_law_306 ?_
    refine lv_topi (fun v634 ev634 => ?_)
    obtain rfl : v634 = (1 : Int32) := ev634.trans (by decide)
    refine va_sld hx hb hX hbl hbA hS (by unfold vp_in; decide) dL_law_307 ?_
    refine W.eq (g2 := F0 m 308 ls [.int (xs 1), .ref (w 0), .int r633]) rfl ?_
    refine lv_aload_n hx hb dL_law_308 rfl (lv_at hl 3 rfl) ?_
    refine lv_iload_n hx hb dL_law_309 rfl (lv_at hl 0 rfl) ?_
    refine lv_iconst (v := 2) hx hb dL_law_310 (by decide) ?_
    refine lv_iadd hx hb dL_law_311 ?_
    refine lv_topi (fun v635 ev635 => ?_)
    obtain rfl : v635 = (2 : Int32) := ev635.trans (by decide)
    refine va_sld hx hb hX hbl hbA hS (by unfold vp_in; decide) dL_law_312 ?_
    refine W.eq (g2 := F0 m 313 ls [.int (xs 2), .int (xs 1), .ref (w 0), .int r633]) rfl ?_
    refine lv_aload_n hx hb dL_law_313 rfl (lv_at hl 3 rfl) ?_
    refine lv_iload_n hx hb dL_law_314 rfl (lv_at hl 0 rfl) ?_
    refine lv_iconst (v := 3) hx hb dL_law_315 (by decide) ?_
    refine lv_iadd hx hb dL_law_316 ?_
    refine lv_topi (fun v636 ev636 => ?_)
    obtain rfl : v636 = (3 : Int32) := ev636.trans (by decide)
    refine va_sld hx hb hX hbl hbA hS (by unfold vp_in; decide) dL_law_317 ?_
    refine W.eq (g2 := F0 m 318 ls [.int (xs 3), .int (xs 2), .int (xs 1), .ref (w 0), .int r633]) rfl ?_
    refine lv_aload_n hx hb dL_law_318 rfl (lv_at hl 3 rfl) ?_
    refine lv_iload_n hx hb dL_law_319 rfl (lv_at hl 0 rfl) ?_
    refine lv_iconst (v := 4) hx hb dL_law_320 (by decide) ?_
    refine lv_iadd hx hb dL_law_321 ?_
    refine lv_topi (fun v637 ev637 => ?_)
    obtain rfl : v637 = (4 : Int32) := ev637.trans (by decide)
    refine va_sld hx hb hX hbl hbA hS (by unfold vp_in; decide) dL_law_322 ?_
    refine W.eq (g2 := F0 m 323 ls [.int (xs 4), .int (xs 3), .int (xs 2), .int (xs 1), .ref (w 0), .int r633]) rfl ?_
    refine lv_aload_n hx hb dL_law_323 rfl (lv_at hl 3 rfl) ?_
    refine lv_iload_n hx hb dL_law_324 rfl (lv_at hl 0 rfl) ?_
    refine lv_iconst (v := 5) hx hb dL_law_325 (by decide) ?_
    refine lv_iadd hx hb dL_law_326 ?_
    refine lv_topi (fun v638 ev638 => ?_)
    obtain rfl : v638 = (5 : Int32) := ev638.trans (by decide)
    refine va_sld hx hb hX hbl hbA hS (by unfold vp_in; decide) dL_law_327 ?_
    refine W.eq (g2 := F0 m 328 ls [.int (xs 5), .int (xs 4), .int (xs 3), .int (xs 2), .int (xs 1), .ref (w 0), .int r633]) rfl ?_
    refine lv_aload_n hx hb dL_law_328 rfl (lv_at hl 3 rfl) ?_
    refine lv_iload_n hx hb dL_law_329 rfl (lv_at hl 0 rfl) ?_
    refine lv_bipush (v := 6) hx hb dL_law_330 (by decide) ?_
    refine lv_iadd hx hb dL_law_332 ?_
    refine lv_topi (fun v639 ev639 => ?_)
    obtain rfl : v639 = (6 : Int32) := ev639.trans (by decide)
    refine va_sld hx hb hX hbl hbA hS (by unfold vp_in; decide) dL_law_333 ?_
    refine W.eq (g2 := F0 m 334 ls [.int (xs 6), .int (xs 5), .int (xs 4), .int (xs 3), .int (xs 2), .int (xs 1), .ref (w 0), .int r633]) rfl ?_
    refine lv_if_eq (tgt := 341) hx hb dL_law_334 (by decide) (fun c640 => ?_) (fun c640 => ?_)
    rotate_left
    · exact absurd c632 c640
    refine lv_iconst (v := 0) hx hb dL_law_341 (by decide) ?_
    refine vp_callSi (W.runV (As := [.int (xs 1), .int (xs 2), .int (xs 3), .int (xs 4), .int (xs 5), .int 0]) (rest := [.int r633]) ⟨hx, hb, hml, hown, hts⟩ (c_X7_produce l dC dI w cz ci (xs 1) (xs 2) (xs 3) (xs 4) (xs 5) 0) (cwV 6 hts gL_law_X7_produce rfl rfl rfl (by decide +kernel) ⟨Nat.le_of_ble_eq_true rfl, Nat.le_of_ble_eq_true rfl⟩) ⟨mx_blind, va_recv hKm0 (xP_l hPm) (ci := 7) (q0 := 0) rfl rfl, fun U hU hW => ⟨rfl, mx_pre (xP_l hPm) hKm0 hU hW⟩⟩ rfl rfl hl.1 rfl (lv_room (Nat.le_of_ble_eq_true rfl)) dL_law_342 ⟨Nat.le_of_ble_eq_true rfl, Nat.le_of_ble_eq_true rfl⟩) (fun r641 hr641 => ?_)
    refine lv_icmp_eq (tgt := 1053) hx hb dL_law_345 (by decide) (fun c642 => ?_) (fun c642 => ?_)
    · exact lw_tail l C0 H locs hS ls hl 79 13150 (by decide) (by decide)
    · exact absurd (hr633.trans hr641.symm) c642
  · refine lv_iconst (v := 1) hx hb dL_law_294 (by decide) ?_
    refine lv_goto (tgt := 299) hx hb dL_law_295 (by decide) ?_
    refine vp_callSi (W.runV (As := [.int (xs 1), .int (xs 2), .int (xs 3), .int (xs 4), .int (xs 5), .int 1]) (rest := []) ⟨hx, hb, hml, hown, hts⟩ (c_X5_produce l dC dI v cy (xs 1) (xs 2) (xs 3) (xs 4) (xs 5) 1) (cwV 6 hts gL_law_X5_produce rfl rfl rfl (by decide +kernel) ⟨Nat.le_of_ble_eq_true rfl, Nat.le_of_ble_eq_true rfl⟩) ⟨fx_blind, va_recv hKx (xP_l hP) (ci := 5) (q0 := 0) rfl rfl, fun U hU hW => ⟨rfl, fx_pre (xP_l hP) hKx hU hW⟩⟩ rfl rfl hl.1 rfl (lv_room (Nat.le_of_ble_eq_true rfl)) dL_law_299 ⟨Nat.le_of_ble_eq_true rfl, Nat.le_of_ble_eq_true rfl⟩) (fun r643 hr643 => ?_)
    refine lv_aload_n hx hb dL_law_302 rfl (lv_at hl 1 rfl) ?_
    refine lv_aload_n hx hb dL_law_303 rfl (lv_at hl 3 rfl) ?_
    refine lv_iload_n hx hb dL_law_304 rfl (lv_at hl 0 rfl) ?_
    refine lv_iconst (v := 1) hx hb dL_law_305 (by decide) ?_
    refine lv_iadd hx hb dL_law_306 ?_
    refine lv_topi (fun v644 ev644 => ?_)
    obtain rfl : v644 = (1 : Int32) := ev644.trans (by decide)
    refine va_sld hx hb hX hbl hbA hS (by unfold vp_in; decide) dL_law_307 ?_
    refine W.eq (g2 := F0 m 308 ls [.int (xs 1), .ref (w 0), .int r643]) rfl ?_
    refine lv_aload_n hx hb dL_law_308 rfl (lv_at hl 3 rfl) ?_
    refine lv_iload_n hx hb dL_law_309 rfl (lv_at hl 0 rfl) ?_
    refine lv_iconst (v := 2) hx hb dL_law_310 (by decide) ?_
    refine lv_iadd hx hb dL_law_311 ?_
    refine lv_topi (fun v645 ev645 => ?_)
    obtain rfl : v645 = (2 : Int32) := ev645.trans (by decide)
    refine va_sld hx hb hX hbl hbA hS (by unfold vp_in; decide) dL_law_312 ?_
    refine W.eq (g2 := F0 m 313 ls [.int (xs 2), .int (xs 1), .ref (w 0), .int r643]) rfl ?_
    refine lv_aload_n hx hb dL_law_313 rfl (lv_at hl 3 rfl) ?_
    refine lv_iload_n hx hb dL_law_314 rfl (lv_at hl 0 rfl) ?_
    refine lv_iconst (v := 3) hx hb dL_law_315 (by decide) ?_
    refine lv_iadd hx hb dL_law_316 ?_
    refine lv_topi (fun v646 ev646 => ?_)
    obtain rfl : v646 = (3 : Int32) := ev646.trans (by decide)
    refine va_sld hx hb hX hbl hbA hS (by unfold vp_in; decide) dL_law_317 ?_
    refine W.eq (g2 := F0 m 318 ls [.int (xs 3), .int (xs 2), .int (xs 1), .ref (w 0), .int r643]) rfl ?_
    refine lv_aload_n hx hb dL_law_318 rfl (lv_at hl 3 rfl) ?_
    refine lv_iload_n hx hb dL_law_319 rfl (lv_at hl 0 rfl) ?_
    refine lv_iconst (v := 4) hx hb dL_law_320 (by decide) ?_
    refine lv_iadd hx hb dL_law_321 ?_
    refine lv_topi (fun v647 ev647 => ?_)
    obtain rfl : v647 = (4 : Int32) := ev647.trans (by decide)
    refine va_sld hx hb hX hbl hbA hS (by unfold vp_in; decide) dL_law_322 ?_
    refine W.eq (g2 := F0 m 323 ls [.int (xs 4), .int (xs 3), .int (xs 2), .int (xs 1), .ref (w 0), .int r643]) rfl ?_
    refine lv_aload_n hx hb dL_law_323 rfl (lv_at hl 3 rfl) ?_
    refine lv_iload_n hx hb dL_law_324 rfl (lv_at hl 0 rfl) ?_
    refine lv_iconst (v := 5) hx hb dL_law_325 (by decide) ?_
    refine lv_iadd hx hb dL_law_326 ?_
    refine lv_topi (fun v648 ev648 => ?_)
    obtain rfl : v648 = (5 : Int32) := ev648.trans (by decide)
    refine va_sld hx hb hX hbl hbA hS (by unfold vp_in; decide) dL_law_327 ?_
    refine W.eq (g2 := F0 m 328 ls [.int (xs 5), .int (xs 4), .int (xs 3), .int (xs 2), .int (xs 1), .ref (w 0), .int r643]) rfl ?_
    refine lv_aload_n hx hb dL_law_328 rfl (lv_at hl 3 rfl) ?_
    refine lv_iload_n hx hb dL_law_329 rfl (lv_at hl 0 rfl) ?_
    refine lv_bipush (v := 6) hx hb dL_law_330 (by decide) ?_
    refine lv_iadd hx hb dL_law_332 ?_
    refine lv_topi (fun v649 ev649 => ?_)
    obtain rfl : v649 = (6 : Int32) := ev649.trans (by decide)
    refine va_sld hx hb hX hbl hbA hS (by unfold vp_in; decide) dL_law_333 ?_
    refine W.eq (g2 := F0 m 334 ls [.int (xs 6), .int (xs 5), .int (xs 4), .int (xs 3), .int (xs 2), .int (xs 1), .ref (w 0), .int r643]) rfl ?_
    refine lv_if_eq (tgt := 341) hx hb dL_law_334 (by decide) (fun c650 => ?_) (fun c650 => ?_)
    · exact absurd c650 c632
    refine lv_iconst (v := 1) hx hb dL_law_337 (by decide) ?_
    refine lv_goto (tgt := 342) hx hb dL_law_338 (by decide) ?_
    refine vp_callSi (W.runV (As := [.int (xs 1), .int (xs 2), .int (xs 3), .int (xs 4), .int (xs 5), .int 1]) (rest := [.int r643]) ⟨hx, hb, hml, hown, hts⟩ (c_X7_produce l dC dI w cz ci (xs 1) (xs 2) (xs 3) (xs 4) (xs 5) 1) (cwV 6 hts gL_law_X7_produce rfl rfl rfl (by decide +kernel) ⟨Nat.le_of_ble_eq_true rfl, Nat.le_of_ble_eq_true rfl⟩) ⟨mx_blind, va_recv hKm0 (xP_l hPm) (ci := 7) (q0 := 0) rfl rfl, fun U hU hW => ⟨rfl, mx_pre (xP_l hPm) hKm0 hU hW⟩⟩ rfl rfl hl.1 rfl (lv_room (Nat.le_of_ble_eq_true rfl)) dL_law_342 ⟨Nat.le_of_ble_eq_true rfl, Nat.le_of_ble_eq_true rfl⟩) (fun r651 hr651 => ?_)
    refine lv_icmp_eq (tgt := 1053) hx hb dL_law_345 (by decide) (fun c652 => ?_) (fun c652 => ?_)
    · exact lw_tail l C0 H locs hS ls hl 79 13150 (by decide) (by decide)
    · exact absurd (hr643.trans hr651.symm) c652
set_option maxHeartbeats 4000000 in
set_option maxRecDepth 100000 in
theorem lw_c4 {p : Program} {e : Env} {s : State} {m : MethodId} {below : List Frame} {meth : Method} {c : Code} (l : Launch) {b : Nat} {xs : Nat → Int32} (C0 : lw_At p s m meth c b 7 xs) {dC : Nat → ClassId} {dI : Nat → Nat → Nat} {v : Nat → Nat} {cy : Nat → ClassId} {w u : Nat → Nat} {cz ci cO cW : ClassId} (hKx : va_K (dC, dI) vwCl (fxT cy) s) (hKm : va_K (dC, dI) vwCl (mxT2 cz ci cO cW) s) (H : Heap) (locs : List Loc) (hP : va_P (dC, dI) vwCl (fxW v cy ++ (mxW w cz ci ++ lgW w u cO cW)) H) (hD : va_D (fun q : Nat => s.heap.size ≤ q) (fxW v cy ++ (mxW w cz ci ++ lgW w u cO cW))) (hS : va_S (fun q : Nat => s.heap.size ≤ q) s.heap H locs) (ls : Array Slot) (hl : lv_has ls 4 [(3, .int 0), (2, .ref (w 0)), (1, .ref (v 0)), (0, .ref b)]) : W p l e room_1 s m #[Value.ref b] below meth c H locs 79 13150 (lw_Z below #[Value.ref b] s) (F0 m 350 ls []) := by
  obtain ⟨hx, hb, hr, hml, hown, hts0, hX, hbl, hlocks, hgv⟩ := id C0
  have hown : s.vm.findClass RL = some m.cls := hown
  have hts : ∀ w ∈ wsL_law, w.before #[Value.ref b] s = true := fun w h => hts0 w (wsL_law_in w h)
  have hA : ∀ q : Nat, s.heap.size ≤ q → (fun q : Nat => s.heap.size ≤ q) q := fun _ h => h
  have hbA : ¬ (fun q : Nat => s.heap.size ≤ q) b := Nat.not_le.mpr hbl
  have hKm0 : va_K (dC, dI) vwCl (mxT cz ci) s := hKm.sub [0, 1] rfl
  have hPm := xP_r hP
  have hDm := xD_r hD
  refine lv_aload_n hx hb dL_law_350 rfl (lv_at hl 2 rfl) ?_
  refine lv_aload_n hx hb dL_law_351 rfl (lv_at hl 3 rfl) ?_
  refine lv_iload_n hx hb dL_law_352 rfl (lv_at hl 0 rfl) ?_
  refine lv_iconst (v := 1) hx hb dL_law_353 (by decide) ?_
  refine lv_iadd hx hb dL_law_354 ?_
  refine lv_topi (fun v653 ev653 => ?_)
  obtain rfl : v653 = (1 : Int32) := ev653.trans (by decide)
  refine va_sld hx hb hX hbl hbA hS (by unfold vp_in; decide) dL_law_355 ?_
  refine W.eq (g2 := F0 m 356 ls [.int (xs 1), .ref (v 0)]) rfl ?_
  refine lv_aload_n hx hb dL_law_356 rfl (lv_at hl 3 rfl) ?_
  refine lv_iload_n hx hb dL_law_357 rfl (lv_at hl 0 rfl) ?_
  refine lv_iconst (v := 2) hx hb dL_law_358 (by decide) ?_
  refine lv_iadd hx hb dL_law_359 ?_
  refine lv_topi (fun v654 ev654 => ?_)
  obtain rfl : v654 = (2 : Int32) := ev654.trans (by decide)
  refine va_sld hx hb hX hbl hbA hS (by unfold vp_in; decide) dL_law_360 ?_
  refine W.eq (g2 := F0 m 361 ls [.int (xs 2), .int (xs 1), .ref (v 0)]) rfl ?_
  refine vp_callSi (W.runV (As := [.int (xs 1), .int (xs 2)]) (rest := []) ⟨hx, hb, hml, hown, hts⟩ (c_X5_safe l dC dI v cy (xs 1) (xs 2)) (cwV 2 hts gL_law_X5_safe rfl rfl rfl (by decide +kernel) ⟨Nat.le_of_ble_eq_true rfl, Nat.le_of_ble_eq_true rfl⟩) ⟨fx_blind, va_recv hKx (xP_l hP) (ci := 5) (q0 := 0) rfl rfl, fun U hU hW => ⟨rfl, fx_pre (xP_l hP) hKx hU hW⟩⟩ rfl rfl hl.1 rfl (lv_room (Nat.le_of_ble_eq_true rfl)) dL_law_361 ⟨Nat.le_of_ble_eq_true rfl, Nat.le_of_ble_eq_true rfl⟩) (fun r655 hr655 => ?_)
  refine lv_aload_n hx hb dL_law_364 rfl (lv_at hl 1 rfl) ?_
  refine lv_aload_n hx hb dL_law_365 rfl (lv_at hl 3 rfl) ?_
  refine lv_iload_n hx hb dL_law_366 rfl (lv_at hl 0 rfl) ?_
  refine lv_iconst (v := 1) hx hb dL_law_367 (by decide) ?_
  refine lv_iadd hx hb dL_law_368 ?_
  refine lv_topi (fun v656 ev656 => ?_)
  obtain rfl : v656 = (1 : Int32) := ev656.trans (by decide)
  refine va_sld hx hb hX hbl hbA hS (by unfold vp_in; decide) dL_law_369 ?_
  refine W.eq (g2 := F0 m 370 ls [.int (xs 1), .ref (w 0), .int r655]) rfl ?_
  refine lv_aload_n hx hb dL_law_370 rfl (lv_at hl 3 rfl) ?_
  refine lv_iload_n hx hb dL_law_371 rfl (lv_at hl 0 rfl) ?_
  refine lv_iconst (v := 2) hx hb dL_law_372 (by decide) ?_
  refine lv_iadd hx hb dL_law_373 ?_
  refine lv_topi (fun v657 ev657 => ?_)
  obtain rfl : v657 = (2 : Int32) := ev657.trans (by decide)
  refine va_sld hx hb hX hbl hbA hS (by unfold vp_in; decide) dL_law_374 ?_
  refine W.eq (g2 := F0 m 375 ls [.int (xs 2), .int (xs 1), .ref (w 0), .int r655]) rfl ?_
  refine vp_callSi (W.runV (As := [.int (xs 1), .int (xs 2)]) (rest := [.int r655]) ⟨hx, hb, hml, hown, hts⟩ (c_X7_safe l dC dI w cz ci (xs 1) (xs 2)) (cwV 2 hts gL_law_X7_safe rfl rfl rfl (by decide +kernel) ⟨Nat.le_of_ble_eq_true rfl, Nat.le_of_ble_eq_true rfl⟩) ⟨mx_blind, va_recv hKm0 (xP_l hPm) (ci := 7) (q0 := 0) rfl rfl, fun U hU hW => ⟨rfl, mx_pre (xP_l hPm) hKm0 hU hW⟩⟩ rfl rfl hl.1 rfl (lv_room (Nat.le_of_ble_eq_true rfl)) dL_law_375 ⟨Nat.le_of_ble_eq_true rfl, Nat.le_of_ble_eq_true rfl⟩) (fun r658 hr658 => ?_)
  refine lv_icmp_eq (tgt := 1053) hx hb dL_law_378 (by decide) (fun c659 => ?_) (fun c659 => ?_)
  · exact lw_tail l C0 H locs hS ls hl 79 13150 (by decide) (by decide)
  · exact absurd (hr655.trans hr658.symm) c659
set_option maxHeartbeats 4000000 in
set_option maxRecDepth 100000 in
theorem lw_c5 {p : Program} {e : Env} {s : State} {m : MethodId} {below : List Frame} {meth : Method} {c : Code} (l : Launch) {b : Nat} {xs : Nat → Int32} (C0 : lw_At p s m meth c b 7 xs) {dC : Nat → ClassId} {dI : Nat → Nat → Nat} {v : Nat → Nat} {cy : Nat → ClassId} {w u : Nat → Nat} {cz ci cO cW : ClassId} (hKx : va_K (dC, dI) vwCl (fxT cy) s) (hKm : va_K (dC, dI) vwCl (mxT2 cz ci cO cW) s) (H : Heap) (locs : List Loc) (hP : va_P (dC, dI) vwCl (fxW v cy ++ (mxW w cz ci ++ lgW w u cO cW)) H) (hD : va_D (fun q : Nat => s.heap.size ≤ q) (fxW v cy ++ (mxW w cz ci ++ lgW w u cO cW))) (hS : va_S (fun q : Nat => s.heap.size ≤ q) s.heap H locs) (ls : Array Slot) (hl : lv_has ls 4 [(3, .int 0), (2, .ref (w 0)), (1, .ref (v 0)), (0, .ref b)]) : W p l e room_1 s m #[Value.ref b] below meth c H locs 79 13150 (lw_Z below #[Value.ref b] s) (F0 m 383 ls []) := by
  obtain ⟨hx, hb, hr, hml, hown, hts0, hX, hbl, hlocks, hgv⟩ := id C0
  have hown : s.vm.findClass RL = some m.cls := hown
  have hts : ∀ w ∈ wsL_law, w.before #[Value.ref b] s = true := fun w h => hts0 w (wsL_law_in w h)
  have hA : ∀ q : Nat, s.heap.size ≤ q → (fun q : Nat => s.heap.size ≤ q) q := fun _ h => h
  have hbA : ¬ (fun q : Nat => s.heap.size ≤ q) b := Nat.not_le.mpr hbl
  have hKm0 : va_K (dC, dI) vwCl (mxT cz ci) s := hKm.sub [0, 1] rfl
  have hPm := xP_r hP
  have hDm := xD_r hD
  refine lv_aload_n hx hb dL_law_383 rfl (lv_at hl 2 rfl) ?_
  refine lv_aload_n hx hb dL_law_384 rfl (lv_at hl 3 rfl) ?_
  refine lv_iload_n hx hb dL_law_385 rfl (lv_at hl 0 rfl) ?_
  refine lv_iconst (v := 1) hx hb dL_law_386 (by decide) ?_
  refine lv_iadd hx hb dL_law_387 ?_
  refine lv_topi (fun v660 ev660 => ?_)
  obtain rfl : v660 = (1 : Int32) := ev660.trans (by decide)
  refine va_sld hx hb hX hbl hbA hS (by unfold vp_in; decide) dL_law_388 ?_
  refine W.eq (g2 := F0 m 389 ls [.int (xs 1), .ref (v 0)]) rfl ?_
  refine lv_aload_n hx hb dL_law_389 rfl (lv_at hl 3 rfl) ?_
  refine lv_iload_n hx hb dL_law_390 rfl (lv_at hl 0 rfl) ?_
  refine lv_iconst (v := 2) hx hb dL_law_391 (by decide) ?_
  refine lv_iadd hx hb dL_law_392 ?_
  refine lv_topi (fun v661 ev661 => ?_)
  obtain rfl : v661 = (2 : Int32) := ev661.trans (by decide)
  refine va_sld hx hb hX hbl hbA hS (by unfold vp_in; decide) dL_law_393 ?_
  refine W.eq (g2 := F0 m 394 ls [.int (xs 2), .int (xs 1), .ref (v 0)]) rfl ?_
  refine vp_callSi (W.runV (As := [.int (xs 1), .int (xs 2)]) (rest := []) ⟨hx, hb, hml, hown, hts⟩ (c_X5_follow l dC dI v cy (xs 1) (xs 2)) (cwV 2 hts gL_law_X5_follow rfl rfl rfl (by decide +kernel) ⟨Nat.le_of_ble_eq_true rfl, Nat.le_of_ble_eq_true rfl⟩) ⟨fx_blind, va_recv hKx (xP_l hP) (ci := 5) (q0 := 0) rfl rfl, fun U hU hW => ⟨rfl, fx_pre (xP_l hP) hKx hU hW⟩⟩ rfl rfl hl.1 rfl (lv_room (Nat.le_of_ble_eq_true rfl)) dL_law_394 ⟨Nat.le_of_ble_eq_true rfl, Nat.le_of_ble_eq_true rfl⟩) (fun r662 hr662 => ?_)
  refine lv_aload_n hx hb dL_law_397 rfl (lv_at hl 1 rfl) ?_
  refine lv_aload_n hx hb dL_law_398 rfl (lv_at hl 3 rfl) ?_
  refine lv_iload_n hx hb dL_law_399 rfl (lv_at hl 0 rfl) ?_
  refine lv_iconst (v := 1) hx hb dL_law_400 (by decide) ?_
  refine lv_iadd hx hb dL_law_401 ?_
  refine lv_topi (fun v663 ev663 => ?_)
  obtain rfl : v663 = (1 : Int32) := ev663.trans (by decide)
  refine va_sld hx hb hX hbl hbA hS (by unfold vp_in; decide) dL_law_402 ?_
  refine W.eq (g2 := F0 m 403 ls [.int (xs 1), .ref (w 0), .int r662]) rfl ?_
  refine lv_aload_n hx hb dL_law_403 rfl (lv_at hl 3 rfl) ?_
  refine lv_iload_n hx hb dL_law_404 rfl (lv_at hl 0 rfl) ?_
  refine lv_iconst (v := 2) hx hb dL_law_405 (by decide) ?_
  refine lv_iadd hx hb dL_law_406 ?_
  refine lv_topi (fun v664 ev664 => ?_)
  obtain rfl : v664 = (2 : Int32) := ev664.trans (by decide)
  refine va_sld hx hb hX hbl hbA hS (by unfold vp_in; decide) dL_law_407 ?_
  refine W.eq (g2 := F0 m 408 ls [.int (xs 2), .int (xs 1), .ref (w 0), .int r662]) rfl ?_
  refine vp_callSi (W.runV (As := [.int (xs 1), .int (xs 2)]) (rest := [.int r662]) ⟨hx, hb, hml, hown, hts⟩ (c_X7_follow l dC dI w cz ci (xs 1) (xs 2)) (cwV 2 hts gL_law_X7_follow rfl rfl rfl (by decide +kernel) ⟨Nat.le_of_ble_eq_true rfl, Nat.le_of_ble_eq_true rfl⟩) ⟨mx_blind, va_recv hKm0 (xP_l hPm) (ci := 7) (q0 := 0) rfl rfl, fun U hU hW => ⟨rfl, mx_pre (xP_l hPm) hKm0 hU hW⟩⟩ rfl rfl hl.1 rfl (lv_room (Nat.le_of_ble_eq_true rfl)) dL_law_408 ⟨Nat.le_of_ble_eq_true rfl, Nat.le_of_ble_eq_true rfl⟩) (fun r665 hr665 => ?_)
  refine lv_icmp_eq (tgt := 1053) hx hb dL_law_411 (by decide) (fun c666 => ?_) (fun c666 => ?_)
  · exact lw_tail l C0 H locs hS ls hl 79 13150 (by decide) (by decide)
  · exact absurd (hr662.trans hr665.symm) c666
set_option maxHeartbeats 4000000 in
set_option maxRecDepth 100000 in
theorem lw_c6 {p : Program} {e : Env} {s : State} {m : MethodId} {below : List Frame} {meth : Method} {c : Code} (l : Launch) {b : Nat} {xs : Nat → Int32} (C0 : lw_At p s m meth c b 7 xs) {dC : Nat → ClassId} {dI : Nat → Nat → Nat} {v : Nat → Nat} {cy : Nat → ClassId} {w u : Nat → Nat} {cz ci cO cW : ClassId} (hKx : va_K (dC, dI) vwCl (fxT cy) s) (hKm : va_K (dC, dI) vwCl (mxT2 cz ci cO cW) s) (H : Heap) (locs : List Loc) (hP : va_P (dC, dI) vwCl (fxW v cy ++ (mxW w cz ci ++ lgW w u cO cW)) H) (hD : va_D (fun q : Nat => s.heap.size ≤ q) (fxW v cy ++ (mxW w cz ci ++ lgW w u cO cW))) (hS : va_S (fun q : Nat => s.heap.size ≤ q) s.heap H locs) (ls : Array Slot) (hl : lv_has ls 4 [(3, .int 0), (2, .ref (w 0)), (1, .ref (v 0)), (0, .ref b)]) : W p l e room_1 s m #[Value.ref b] below meth c H locs 79 13150 (lw_Z below #[Value.ref b] s) (F0 m 416 ls []) := by
  obtain ⟨hx, hb, hr, hml, hown, hts0, hX, hbl, hlocks, hgv⟩ := id C0
  have hown : s.vm.findClass RL = some m.cls := hown
  have hts : ∀ w ∈ wsL_law, w.before #[Value.ref b] s = true := fun w h => hts0 w (wsL_law_in w h)
  have hA : ∀ q : Nat, s.heap.size ≤ q → (fun q : Nat => s.heap.size ≤ q) q := fun _ h => h
  have hbA : ¬ (fun q : Nat => s.heap.size ≤ q) b := Nat.not_le.mpr hbl
  have hKm0 : va_K (dC, dI) vwCl (mxT cz ci) s := hKm.sub [0, 1] rfl
  have hPm := xP_r hP
  have hDm := xD_r hD
  refine lv_aload_n hx hb dL_law_416 rfl (lv_at hl 2 rfl) ?_
  refine lv_aload_n hx hb dL_law_417 rfl (lv_at hl 3 rfl) ?_
  refine lv_iload_n hx hb dL_law_418 rfl (lv_at hl 0 rfl) ?_
  refine lv_iconst (v := 1) hx hb dL_law_419 (by decide) ?_
  refine lv_iadd hx hb dL_law_420 ?_
  refine lv_topi (fun v667 ev667 => ?_)
  obtain rfl : v667 = (1 : Int32) := ev667.trans (by decide)
  refine va_sld hx hb hX hbl hbA hS (by unfold vp_in; decide) dL_law_421 ?_
  refine W.eq (g2 := F0 m 422 ls [.int (xs 1), .ref (v 0)]) rfl ?_
  refine vp_callSi (W.runV (As := [.int (xs 1)]) (rest := []) ⟨hx, hb, hml, hown, hts⟩ (c_X5_begin l dC dI v cy (xs 1)) (cwV 1 hts gL_law_X5_begin rfl rfl rfl (by decide +kernel) ⟨Nat.le_of_ble_eq_true rfl, Nat.le_of_ble_eq_true rfl⟩) ⟨fx_blind, va_recv hKx (xP_l hP) (ci := 5) (q0 := 0) rfl rfl, fun U hU hW => ⟨rfl, fx_pre (xP_l hP) hKx hU hW⟩⟩ rfl rfl hl.1 rfl (lv_room (Nat.le_of_ble_eq_true rfl)) dL_law_422 ⟨Nat.le_of_ble_eq_true rfl, Nat.le_of_ble_eq_true rfl⟩) (fun r668 hr668 => ?_)
  refine lv_aload_n hx hb dL_law_425 rfl (lv_at hl 1 rfl) ?_
  refine lv_aload_n hx hb dL_law_426 rfl (lv_at hl 3 rfl) ?_
  refine lv_iload_n hx hb dL_law_427 rfl (lv_at hl 0 rfl) ?_
  refine lv_iconst (v := 1) hx hb dL_law_428 (by decide) ?_
  refine lv_iadd hx hb dL_law_429 ?_
  refine lv_topi (fun v669 ev669 => ?_)
  obtain rfl : v669 = (1 : Int32) := ev669.trans (by decide)
  refine va_sld hx hb hX hbl hbA hS (by unfold vp_in; decide) dL_law_430 ?_
  refine W.eq (g2 := F0 m 431 ls [.int (xs 1), .ref (w 0), .int r668]) rfl ?_
  refine vp_callSi (W.runV (As := [.int (xs 1)]) (rest := [.int r668]) ⟨hx, hb, hml, hown, hts⟩ (c_X7_begin l dC dI w cz ci (xs 1)) (cwV 1 hts gL_law_X7_begin rfl rfl rfl (by decide +kernel) ⟨Nat.le_of_ble_eq_true rfl, Nat.le_of_ble_eq_true rfl⟩) ⟨mx_blind, va_recv hKm0 (xP_l hPm) (ci := 7) (q0 := 0) rfl rfl, fun U hU hW => ⟨rfl, mx_pre (xP_l hPm) hKm0 hU hW⟩⟩ rfl rfl hl.1 rfl (lv_room (Nat.le_of_ble_eq_true rfl)) dL_law_431 ⟨Nat.le_of_ble_eq_true rfl, Nat.le_of_ble_eq_true rfl⟩) (fun r670 hr670 => ?_)
  refine lv_icmp_eq (tgt := 1053) hx hb dL_law_434 (by decide) (fun c671 => ?_) (fun c671 => ?_)
  · exact lw_tail l C0 H locs hS ls hl 79 13150 (by decide) (by decide)
  · exact absurd (hr668.trans hr670.symm) c671
set_option maxHeartbeats 4000000 in
set_option maxRecDepth 100000 in
theorem lw_c7 {p : Program} {e : Env} {s : State} {m : MethodId} {below : List Frame} {meth : Method} {c : Code} (l : Launch) {b : Nat} {xs : Nat → Int32} (C0 : lw_At p s m meth c b 7 xs) {dC : Nat → ClassId} {dI : Nat → Nat → Nat} {v : Nat → Nat} {cy : Nat → ClassId} {w u : Nat → Nat} {cz ci cO cW : ClassId} (hKx : va_K (dC, dI) vwCl (fxT cy) s) (hKm : va_K (dC, dI) vwCl (mxT2 cz ci cO cW) s) (H : Heap) (locs : List Loc) (hP : va_P (dC, dI) vwCl (fxW v cy ++ (mxW w cz ci ++ lgW w u cO cW)) H) (hD : va_D (fun q : Nat => s.heap.size ≤ q) (fxW v cy ++ (mxW w cz ci ++ lgW w u cO cW))) (hS : va_S (fun q : Nat => s.heap.size ≤ q) s.heap H locs) (ls : Array Slot) (hl : lv_has ls 4 [(3, .int 0), (2, .ref (w 0)), (1, .ref (v 0)), (0, .ref b)]) : W p l e room_1 s m #[Value.ref b] below meth c H locs 79 13150 (lw_Z below #[Value.ref b] s) (F0 m 439 ls []) := by
  obtain ⟨hx, hb, hr, hml, hown, hts0, hX, hbl, hlocks, hgv⟩ := id C0
  have hown : s.vm.findClass RL = some m.cls := hown
  have hts : ∀ w ∈ wsL_law, w.before #[Value.ref b] s = true := fun w h => hts0 w (wsL_law_in w h)
  have hA : ∀ q : Nat, s.heap.size ≤ q → (fun q : Nat => s.heap.size ≤ q) q := fun _ h => h
  have hbA : ¬ (fun q : Nat => s.heap.size ≤ q) b := Nat.not_le.mpr hbl
  have hKm0 : va_K (dC, dI) vwCl (mxT cz ci) s := hKm.sub [0, 1] rfl
  have hPm := xP_r hP
  have hDm := xD_r hD
  refine lv_aload_n hx hb dL_law_439 rfl (lv_at hl 2 rfl) ?_
  refine lv_aload_n hx hb dL_law_440 rfl (lv_at hl 3 rfl) ?_
  refine lv_iload_n hx hb dL_law_441 rfl (lv_at hl 0 rfl) ?_
  refine lv_iconst (v := 1) hx hb dL_law_442 (by decide) ?_
  refine lv_iadd hx hb dL_law_443 ?_
  refine lv_topi (fun v672 ev672 => ?_)
  obtain rfl : v672 = (1 : Int32) := ev672.trans (by decide)
  refine va_sld hx hb hX hbl hbA hS (by unfold vp_in; decide) dL_law_444 ?_
  refine W.eq (g2 := F0 m 445 ls [.int (xs 1), .ref (v 0)]) rfl ?_
  refine lv_aload_n hx hb dL_law_445 rfl (lv_at hl 3 rfl) ?_
  refine lv_iload_n hx hb dL_law_446 rfl (lv_at hl 0 rfl) ?_
  refine lv_iconst (v := 2) hx hb dL_law_447 (by decide) ?_
  refine lv_iadd hx hb dL_law_448 ?_
  refine lv_topi (fun v673 ev673 => ?_)
  obtain rfl : v673 = (2 : Int32) := ev673.trans (by decide)
  refine va_sld hx hb hX hbl hbA hS (by unfold vp_in; decide) dL_law_449 ?_
  refine W.eq (g2 := F0 m 450 ls [.int (xs 2), .int (xs 1), .ref (v 0)]) rfl ?_
  refine lv_if_eq (tgt := 457) hx hb dL_law_450 (by decide) (fun c674 => ?_) (fun c674 => ?_)
  · refine lv_iconst (v := 0) hx hb dL_law_457 (by decide) ?_
    refine vp_callSi (W.runV (As := [.int (xs 1), .int 0]) (rest := []) ⟨hx, hb, hml, hown, hts⟩ (c_X5_finish l dC dI v cy (xs 1) 0) (cwV 2 hts gL_law_X5_finish rfl rfl rfl (by decide +kernel) ⟨Nat.le_of_ble_eq_true rfl, Nat.le_of_ble_eq_true rfl⟩) ⟨fx_blind, va_recv hKx (xP_l hP) (ci := 5) (q0 := 0) rfl rfl, fun U hU hW => ⟨rfl, fx_pre (xP_l hP) hKx hU hW⟩⟩ rfl rfl hl.1 rfl (lv_room (Nat.le_of_ble_eq_true rfl)) dL_law_458 ⟨Nat.le_of_ble_eq_true rfl, Nat.le_of_ble_eq_true rfl⟩) (fun r675 hr675 => ?_)
    refine lv_aload_n hx hb dL_law_461 rfl (lv_at hl 1 rfl) ?_
    refine lv_aload_n hx hb dL_law_462 rfl (lv_at hl 3 rfl) ?_
    refine lv_iload_n hx hb dL_law_463 rfl (lv_at hl 0 rfl) ?_
    refine lv_iconst (v := 1) hx hb dL_law_464 (by decide) ?_
    refine lv_iadd hx hb dL_law_465 ?_
    refine lv_topi (fun v676 ev676 => ?_)
    obtain rfl : v676 = (1 : Int32) := ev676.trans (by decide)
    refine va_sld hx hb hX hbl hbA hS (by unfold vp_in; decide) dL_law_466 ?_
    refine W.eq (g2 := F0 m 467 ls [.int (xs 1), .ref (w 0), .int r675]) rfl ?_
    refine lv_aload_n hx hb dL_law_467 rfl (lv_at hl 3 rfl) ?_
    refine lv_iload_n hx hb dL_law_468 rfl (lv_at hl 0 rfl) ?_
    refine lv_iconst (v := 2) hx hb dL_law_469 (by decide) ?_
    refine lv_iadd hx hb dL_law_470 ?_
    refine lv_topi (fun v677 ev677 => ?_)
    obtain rfl : v677 = (2 : Int32) := ev677.trans (by decide)
    refine va_sld hx hb hX hbl hbA hS (by unfold vp_in; decide) dL_law_471 ?_
    refine W.eq (g2 := F0 m 472 ls [.int (xs 2), .int (xs 1), .ref (w 0), .int r675]) rfl ?_
    refine lv_if_eq (tgt := 479) hx hb dL_law_472 (by decide) (fun c678 => ?_) (fun c678 => ?_)
    rotate_left
    · exact absurd c674 c678
    refine lv_iconst (v := 0) hx hb dL_law_479 (by decide) ?_
    refine vp_callSi (W.runV (As := [.int (xs 1), .int 0]) (rest := [.int r675]) ⟨hx, hb, hml, hown, hts⟩ (c_X7_finish l dC dI w cz ci (xs 1) 0) (cwV 2 hts gL_law_X7_finish rfl rfl rfl (by decide +kernel) ⟨Nat.le_of_ble_eq_true rfl, Nat.le_of_ble_eq_true rfl⟩) ⟨mx_blind, va_recv hKm0 (xP_l hPm) (ci := 7) (q0 := 0) rfl rfl, fun U hU hW => ⟨rfl, mx_pre (xP_l hPm) hKm0 hU hW⟩⟩ rfl rfl hl.1 rfl (lv_room (Nat.le_of_ble_eq_true rfl)) dL_law_480 ⟨Nat.le_of_ble_eq_true rfl, Nat.le_of_ble_eq_true rfl⟩) (fun r679 hr679 => ?_)
    refine lv_icmp_eq (tgt := 1053) hx hb dL_law_483 (by decide) (fun c680 => ?_) (fun c680 => ?_)
    · exact lw_tail l C0 H locs hS ls hl 79 13150 (by decide) (by decide)
    · exact absurd (hr675.trans hr679.symm) c680
  · refine lv_iconst (v := 1) hx hb dL_law_453 (by decide) ?_
    refine lv_goto (tgt := 458) hx hb dL_law_454 (by decide) ?_
    refine vp_callSi (W.runV (As := [.int (xs 1), .int 1]) (rest := []) ⟨hx, hb, hml, hown, hts⟩ (c_X5_finish l dC dI v cy (xs 1) 1) (cwV 2 hts gL_law_X5_finish rfl rfl rfl (by decide +kernel) ⟨Nat.le_of_ble_eq_true rfl, Nat.le_of_ble_eq_true rfl⟩) ⟨fx_blind, va_recv hKx (xP_l hP) (ci := 5) (q0 := 0) rfl rfl, fun U hU hW => ⟨rfl, fx_pre (xP_l hP) hKx hU hW⟩⟩ rfl rfl hl.1 rfl (lv_room (Nat.le_of_ble_eq_true rfl)) dL_law_458 ⟨Nat.le_of_ble_eq_true rfl, Nat.le_of_ble_eq_true rfl⟩) (fun r681 hr681 => ?_)
    refine lv_aload_n hx hb dL_law_461 rfl (lv_at hl 1 rfl) ?_
    refine lv_aload_n hx hb dL_law_462 rfl (lv_at hl 3 rfl) ?_
    refine lv_iload_n hx hb dL_law_463 rfl (lv_at hl 0 rfl) ?_
    refine lv_iconst (v := 1) hx hb dL_law_464 (by decide) ?_
    refine lv_iadd hx hb dL_law_465 ?_
    refine lv_topi (fun v682 ev682 => ?_)
    obtain rfl : v682 = (1 : Int32) := ev682.trans (by decide)
    refine va_sld hx hb hX hbl hbA hS (by unfold vp_in; decide) dL_law_466 ?_
    refine W.eq (g2 := F0 m 467 ls [.int (xs 1), .ref (w 0), .int r681]) rfl ?_
    refine lv_aload_n hx hb dL_law_467 rfl (lv_at hl 3 rfl) ?_
    refine lv_iload_n hx hb dL_law_468 rfl (lv_at hl 0 rfl) ?_
    refine lv_iconst (v := 2) hx hb dL_law_469 (by decide) ?_
    refine lv_iadd hx hb dL_law_470 ?_
    refine lv_topi (fun v683 ev683 => ?_)
    obtain rfl : v683 = (2 : Int32) := ev683.trans (by decide)
    refine va_sld hx hb hX hbl hbA hS (by unfold vp_in; decide) dL_law_471 ?_
    refine W.eq (g2 := F0 m 472 ls [.int (xs 2), .int (xs 1), .ref (w 0), .int r681]) rfl ?_
    refine lv_if_eq (tgt := 479) hx hb dL_law_472 (by decide) (fun c684 => ?_) (fun c684 => ?_)
    · exact absurd c684 c674
    refine lv_iconst (v := 1) hx hb dL_law_475 (by decide) ?_
    refine lv_goto (tgt := 480) hx hb dL_law_476 (by decide) ?_
    refine vp_callSi (W.runV (As := [.int (xs 1), .int 1]) (rest := [.int r681]) ⟨hx, hb, hml, hown, hts⟩ (c_X7_finish l dC dI w cz ci (xs 1) 1) (cwV 2 hts gL_law_X7_finish rfl rfl rfl (by decide +kernel) ⟨Nat.le_of_ble_eq_true rfl, Nat.le_of_ble_eq_true rfl⟩) ⟨mx_blind, va_recv hKm0 (xP_l hPm) (ci := 7) (q0 := 0) rfl rfl, fun U hU hW => ⟨rfl, mx_pre (xP_l hPm) hKm0 hU hW⟩⟩ rfl rfl hl.1 rfl (lv_room (Nat.le_of_ble_eq_true rfl)) dL_law_480 ⟨Nat.le_of_ble_eq_true rfl, Nat.le_of_ble_eq_true rfl⟩) (fun r685 hr685 => ?_)
    refine lv_icmp_eq (tgt := 1053) hx hb dL_law_483 (by decide) (fun c686 => ?_) (fun c686 => ?_)
    · exact lw_tail l C0 H locs hS ls hl 79 13150 (by decide) (by decide)
    · exact absurd (hr681.trans hr685.symm) c686
set_option maxHeartbeats 4000000 in
set_option maxRecDepth 100000 in
theorem lw_c8 {p : Program} {e : Env} {s : State} {m : MethodId} {below : List Frame} {meth : Method} {c : Code} (l : Launch) {b : Nat} {xs : Nat → Int32} (C0 : lw_At p s m meth c b 7 xs) {dC : Nat → ClassId} {dI : Nat → Nat → Nat} {v : Nat → Nat} {cy : Nat → ClassId} {w u : Nat → Nat} {cz ci cO cW : ClassId} (hKx : va_K (dC, dI) vwCl (fxT cy) s) (hKm : va_K (dC, dI) vwCl (mxT2 cz ci cO cW) s) (H : Heap) (locs : List Loc) (hP : va_P (dC, dI) vwCl (fxW v cy ++ (mxW w cz ci ++ lgW w u cO cW)) H) (hD : va_D (fun q : Nat => s.heap.size ≤ q) (fxW v cy ++ (mxW w cz ci ++ lgW w u cO cW))) (hS : va_S (fun q : Nat => s.heap.size ≤ q) s.heap H locs) (ls : Array Slot) (hl : lv_has ls 4 [(3, .int 0), (2, .ref (w 0)), (1, .ref (v 0)), (0, .ref b)]) : W p l e room_1 s m #[Value.ref b] below meth c H locs 79 13150 (lw_Z below #[Value.ref b] s) (F0 m 488 ls []) := by
  obtain ⟨hx, hb, hr, hml, hown, hts0, hX, hbl, hlocks, hgv⟩ := id C0
  have hown : s.vm.findClass RL = some m.cls := hown
  have hts : ∀ w ∈ wsL_law, w.before #[Value.ref b] s = true := fun w h => hts0 w (wsL_law_in w h)
  have hA : ∀ q : Nat, s.heap.size ≤ q → (fun q : Nat => s.heap.size ≤ q) q := fun _ h => h
  have hbA : ¬ (fun q : Nat => s.heap.size ≤ q) b := Nat.not_le.mpr hbl
  have hKm0 : va_K (dC, dI) vwCl (mxT cz ci) s := hKm.sub [0, 1] rfl
  have hPm := xP_r hP
  have hDm := xD_r hD
  refine lv_aload_n hx hb dL_law_488 rfl (lv_at hl 2 rfl) ?_
  refine lv_aload_n hx hb dL_law_489 rfl (lv_at hl 3 rfl) ?_
  refine lv_iload_n hx hb dL_law_490 rfl (lv_at hl 0 rfl) ?_
  refine lv_iconst (v := 1) hx hb dL_law_491 (by decide) ?_
  refine lv_iadd hx hb dL_law_492 ?_
  refine lv_topi (fun v687 ev687 => ?_)
  obtain rfl : v687 = (1 : Int32) := ev687.trans (by decide)
  refine va_sld hx hb hX hbl hbA hS (by unfold vp_in; decide) dL_law_493 ?_
  refine W.eq (g2 := F0 m 494 ls [.int (xs 1), .ref (v 0)]) rfl ?_
  refine vp_callSi (W.runV (As := [.int (xs 1)]) (rest := []) ⟨hx, hb, hml, hown, hts⟩ (c_X5_settle l dC dI v cy (xs 1)) (cwV 1 hts gL_law_X5_settle rfl rfl rfl (by decide +kernel) ⟨Nat.le_of_ble_eq_true rfl, Nat.le_of_ble_eq_true rfl⟩) ⟨fx_blind, va_recv hKx (xP_l hP) (ci := 5) (q0 := 0) rfl rfl, fun U hU hW => ⟨rfl, fx_pre (xP_l hP) hKx hU hW⟩⟩ rfl rfl hl.1 rfl (lv_room (Nat.le_of_ble_eq_true rfl)) dL_law_494 ⟨Nat.le_of_ble_eq_true rfl, Nat.le_of_ble_eq_true rfl⟩) (fun r688 hr688 => ?_)
  refine lv_aload_n hx hb dL_law_497 rfl (lv_at hl 1 rfl) ?_
  refine lv_aload_n hx hb dL_law_498 rfl (lv_at hl 3 rfl) ?_
  refine lv_iload_n hx hb dL_law_499 rfl (lv_at hl 0 rfl) ?_
  refine lv_iconst (v := 1) hx hb dL_law_500 (by decide) ?_
  refine lv_iadd hx hb dL_law_501 ?_
  refine lv_topi (fun v689 ev689 => ?_)
  obtain rfl : v689 = (1 : Int32) := ev689.trans (by decide)
  refine va_sld hx hb hX hbl hbA hS (by unfold vp_in; decide) dL_law_502 ?_
  refine W.eq (g2 := F0 m 503 ls [.int (xs 1), .ref (w 0), .int r688]) rfl ?_
  refine vp_callSi (W.runV (As := [.int (xs 1)]) (rest := [.int r688]) ⟨hx, hb, hml, hown, hts⟩ (c_X7_settle l dC dI w cz ci (xs 1)) (cwV 1 hts gL_law_X7_settle rfl rfl rfl (by decide +kernel) ⟨Nat.le_of_ble_eq_true rfl, Nat.le_of_ble_eq_true rfl⟩) ⟨mx_blind, va_recv hKm0 (xP_l hPm) (ci := 7) (q0 := 0) rfl rfl, fun U hU hW => ⟨rfl, mx_pre (xP_l hPm) hKm0 hU hW⟩⟩ rfl rfl hl.1 rfl (lv_room (Nat.le_of_ble_eq_true rfl)) dL_law_503 ⟨Nat.le_of_ble_eq_true rfl, Nat.le_of_ble_eq_true rfl⟩) (fun r690 hr690 => ?_)
  refine lv_icmp_eq (tgt := 1053) hx hb dL_law_506 (by decide) (fun c691 => ?_) (fun c691 => ?_)
  · exact lw_tail l C0 H locs hS ls hl 79 13150 (by decide) (by decide)
  · exact absurd (hr688.trans hr690.symm) c691
set_option maxHeartbeats 4000000 in
set_option maxRecDepth 100000 in
theorem lw_c9 {p : Program} {e : Env} {s : State} {m : MethodId} {below : List Frame} {meth : Method} {c : Code} (l : Launch) {b : Nat} {xs : Nat → Int32} (C0 : lw_At p s m meth c b 7 xs) {dC : Nat → ClassId} {dI : Nat → Nat → Nat} {v : Nat → Nat} {cy : Nat → ClassId} {w u : Nat → Nat} {cz ci cO cW : ClassId} (hKx : va_K (dC, dI) vwCl (fxT cy) s) (hKm : va_K (dC, dI) vwCl (mxT2 cz ci cO cW) s) (H : Heap) (locs : List Loc) (hP : va_P (dC, dI) vwCl (fxW v cy ++ (mxW w cz ci ++ lgW w u cO cW)) H) (hD : va_D (fun q : Nat => s.heap.size ≤ q) (fxW v cy ++ (mxW w cz ci ++ lgW w u cO cW))) (hS : va_S (fun q : Nat => s.heap.size ≤ q) s.heap H locs) (ls : Array Slot) (hl : lv_has ls 4 [(3, .int 0), (2, .ref (w 0)), (1, .ref (v 0)), (0, .ref b)]) : W p l e room_1 s m #[Value.ref b] below meth c H locs 79 13150 (lw_Z below #[Value.ref b] s) (F0 m 511 ls []) := by
  obtain ⟨hx, hb, hr, hml, hown, hts0, hX, hbl, hlocks, hgv⟩ := id C0
  have hown : s.vm.findClass RL = some m.cls := hown
  have hts : ∀ w ∈ wsL_law, w.before #[Value.ref b] s = true := fun w h => hts0 w (wsL_law_in w h)
  have hA : ∀ q : Nat, s.heap.size ≤ q → (fun q : Nat => s.heap.size ≤ q) q := fun _ h => h
  have hbA : ¬ (fun q : Nat => s.heap.size ≤ q) b := Nat.not_le.mpr hbl
  have hKm0 : va_K (dC, dI) vwCl (mxT cz ci) s := hKm.sub [0, 1] rfl
  have hPm := xP_r hP
  have hDm := xD_r hD
  refine lv_aload_n hx hb dL_law_511 rfl (lv_at hl 2 rfl) ?_
  refine lv_aload_n hx hb dL_law_512 rfl (lv_at hl 3 rfl) ?_
  refine lv_iload_n hx hb dL_law_513 rfl (lv_at hl 0 rfl) ?_
  refine lv_iconst (v := 1) hx hb dL_law_514 (by decide) ?_
  refine lv_iadd hx hb dL_law_515 ?_
  refine lv_topi (fun v692 ev692 => ?_)
  obtain rfl : v692 = (1 : Int32) := ev692.trans (by decide)
  refine va_sld hx hb hX hbl hbA hS (by unfold vp_in; decide) dL_law_516 ?_
  refine W.eq (g2 := F0 m 517 ls [.int (xs 1), .ref (v 0)]) rfl ?_
  refine lv_aload_n hx hb dL_law_517 rfl (lv_at hl 3 rfl) ?_
  refine lv_iload_n hx hb dL_law_518 rfl (lv_at hl 0 rfl) ?_
  refine lv_iconst (v := 2) hx hb dL_law_519 (by decide) ?_
  refine lv_iadd hx hb dL_law_520 ?_
  refine lv_topi (fun v693 ev693 => ?_)
  obtain rfl : v693 = (2 : Int32) := ev693.trans (by decide)
  refine va_sld hx hb hX hbl hbA hS (by unfold vp_in; decide) dL_law_521 ?_
  refine W.eq (g2 := F0 m 522 ls [.int (xs 2), .int (xs 1), .ref (v 0)]) rfl ?_
  refine lv_aload_n hx hb dL_law_522 rfl (lv_at hl 3 rfl) ?_
  refine lv_iload_n hx hb dL_law_523 rfl (lv_at hl 0 rfl) ?_
  refine lv_iconst (v := 3) hx hb dL_law_524 (by decide) ?_
  refine lv_iadd hx hb dL_law_525 ?_
  refine lv_topi (fun v694 ev694 => ?_)
  obtain rfl : v694 = (3 : Int32) := ev694.trans (by decide)
  refine va_sld hx hb hX hbl hbA hS (by unfold vp_in; decide) dL_law_526 ?_
  refine W.eq (g2 := F0 m 527 ls [.int (xs 3), .int (xs 2), .int (xs 1), .ref (v 0)]) rfl ?_
  refine lv_if_eq (tgt := 534) hx hb dL_law_527 (by decide) (fun c695 => ?_) (fun c695 => ?_)
  · refine lv_iconst (v := 0) hx hb dL_law_534 (by decide) ?_
    refine vp_callSi (W.runV (As := [.int (xs 1), .int (xs 2), .int 0]) (rest := []) ⟨hx, hb, hml, hown, hts⟩ (c_X5_consume l dC dI v cy (xs 1) (xs 2) 0) (cwV 3 hts gL_law_X5_consume rfl rfl rfl (by decide +kernel) ⟨Nat.le_of_ble_eq_true rfl, Nat.le_of_ble_eq_true rfl⟩) ⟨fx_blind, va_recv hKx (xP_l hP) (ci := 5) (q0 := 0) rfl rfl, fun U hU hW => ⟨rfl, fx_pre (xP_l hP) hKx hU hW⟩⟩ rfl rfl hl.1 rfl (lv_room (Nat.le_of_ble_eq_true rfl)) dL_law_535 ⟨Nat.le_of_ble_eq_true rfl, Nat.le_of_ble_eq_true rfl⟩) (fun r696 hr696 => ?_)
    refine lv_aload_n hx hb dL_law_538 rfl (lv_at hl 1 rfl) ?_
    refine lv_aload_n hx hb dL_law_539 rfl (lv_at hl 3 rfl) ?_
    refine lv_iload_n hx hb dL_law_540 rfl (lv_at hl 0 rfl) ?_
    refine lv_iconst (v := 1) hx hb dL_law_541 (by decide) ?_
    refine lv_iadd hx hb dL_law_542 ?_
    refine lv_topi (fun v697 ev697 => ?_)
    obtain rfl : v697 = (1 : Int32) := ev697.trans (by decide)
    refine va_sld hx hb hX hbl hbA hS (by unfold vp_in; decide) dL_law_543 ?_
    refine W.eq (g2 := F0 m 544 ls [.int (xs 1), .ref (w 0), .int r696]) rfl ?_
    refine lv_aload_n hx hb dL_law_544 rfl (lv_at hl 3 rfl) ?_
    refine lv_iload_n hx hb dL_law_545 rfl (lv_at hl 0 rfl) ?_
    refine lv_iconst (v := 2) hx hb dL_law_546 (by decide) ?_
    refine lv_iadd hx hb dL_law_547 ?_
    refine lv_topi (fun v698 ev698 => ?_)
    obtain rfl : v698 = (2 : Int32) := ev698.trans (by decide)
    refine va_sld hx hb hX hbl hbA hS (by unfold vp_in; decide) dL_law_548 ?_
    refine W.eq (g2 := F0 m 549 ls [.int (xs 2), .int (xs 1), .ref (w 0), .int r696]) rfl ?_
    refine lv_aload_n hx hb dL_law_549 rfl (lv_at hl 3 rfl) ?_
    refine lv_iload_n hx hb dL_law_550 rfl (lv_at hl 0 rfl) ?_
    refine lv_iconst (v := 3) hx hb dL_law_551 (by decide) ?_
    refine lv_iadd hx hb dL_law_552 ?_
    refine lv_topi (fun v699 ev699 => ?_)
    obtain rfl : v699 = (3 : Int32) := ev699.trans (by decide)
    refine va_sld hx hb hX hbl hbA hS (by unfold vp_in; decide) dL_law_553 ?_
    refine W.eq (g2 := F0 m 554 ls [.int (xs 3), .int (xs 2), .int (xs 1), .ref (w 0), .int r696]) rfl ?_
    refine lv_if_eq (tgt := 561) hx hb dL_law_554 (by decide) (fun c700 => ?_) (fun c700 => ?_)
    rotate_left
    · exact absurd c695 c700
    refine lv_iconst (v := 0) hx hb dL_law_561 (by decide) ?_
    refine vp_callSi (W.runV (As := [.int (xs 1), .int (xs 2), .int 0]) (rest := [.int r696]) ⟨hx, hb, hml, hown, hts⟩ (c_X7_consume l dC dI w cz ci (xs 1) (xs 2) 0) (cwV 3 hts gL_law_X7_consume rfl rfl rfl (by decide +kernel) ⟨Nat.le_of_ble_eq_true rfl, Nat.le_of_ble_eq_true rfl⟩) ⟨mx_blind, va_recv hKm0 (xP_l hPm) (ci := 7) (q0 := 0) rfl rfl, fun U hU hW => ⟨rfl, mx_pre (xP_l hPm) hKm0 hU hW⟩⟩ rfl rfl hl.1 rfl (lv_room (Nat.le_of_ble_eq_true rfl)) dL_law_562 ⟨Nat.le_of_ble_eq_true rfl, Nat.le_of_ble_eq_true rfl⟩) (fun r701 hr701 => ?_)
    refine lv_icmp_eq (tgt := 1053) hx hb dL_law_565 (by decide) (fun c702 => ?_) (fun c702 => ?_)
    · exact lw_tail l C0 H locs hS ls hl 79 13150 (by decide) (by decide)
    · exact absurd (hr696.trans hr701.symm) c702
  · refine lv_iconst (v := 1) hx hb dL_law_530 (by decide) ?_
    refine lv_goto (tgt := 535) hx hb dL_law_531 (by decide) ?_
    refine vp_callSi (W.runV (As := [.int (xs 1), .int (xs 2), .int 1]) (rest := []) ⟨hx, hb, hml, hown, hts⟩ (c_X5_consume l dC dI v cy (xs 1) (xs 2) 1) (cwV 3 hts gL_law_X5_consume rfl rfl rfl (by decide +kernel) ⟨Nat.le_of_ble_eq_true rfl, Nat.le_of_ble_eq_true rfl⟩) ⟨fx_blind, va_recv hKx (xP_l hP) (ci := 5) (q0 := 0) rfl rfl, fun U hU hW => ⟨rfl, fx_pre (xP_l hP) hKx hU hW⟩⟩ rfl rfl hl.1 rfl (lv_room (Nat.le_of_ble_eq_true rfl)) dL_law_535 ⟨Nat.le_of_ble_eq_true rfl, Nat.le_of_ble_eq_true rfl⟩) (fun r703 hr703 => ?_)
    refine lv_aload_n hx hb dL_law_538 rfl (lv_at hl 1 rfl) ?_
    refine lv_aload_n hx hb dL_law_539 rfl (lv_at hl 3 rfl) ?_
    refine lv_iload_n hx hb dL_law_540 rfl (lv_at hl 0 rfl) ?_
    refine lv_iconst (v := 1) hx hb dL_law_541 (by decide) ?_
    refine lv_iadd hx hb dL_law_542 ?_
    refine lv_topi (fun v704 ev704 => ?_)
    obtain rfl : v704 = (1 : Int32) := ev704.trans (by decide)
    refine va_sld hx hb hX hbl hbA hS (by unfold vp_in; decide) dL_law_543 ?_
    refine W.eq (g2 := F0 m 544 ls [.int (xs 1), .ref (w 0), .int r703]) rfl ?_
    refine lv_aload_n hx hb dL_law_544 rfl (lv_at hl 3 rfl) ?_
    refine lv_iload_n hx hb dL_law_545 rfl (lv_at hl 0 rfl) ?_
    refine lv_iconst (v := 2) hx hb dL_law_546 (by decide) ?_
    refine lv_iadd hx hb dL_law_547 ?_
    refine lv_topi (fun v705 ev705 => ?_)
    obtain rfl : v705 = (2 : Int32) := ev705.trans (by decide)
    refine va_sld hx hb hX hbl hbA hS (by unfold vp_in; decide) dL_law_548 ?_
    refine W.eq (g2 := F0 m 549 ls [.int (xs 2), .int (xs 1), .ref (w 0), .int r703]) rfl ?_
    refine lv_aload_n hx hb dL_law_549 rfl (lv_at hl 3 rfl) ?_
    refine lv_iload_n hx hb dL_law_550 rfl (lv_at hl 0 rfl) ?_
    refine lv_iconst (v := 3) hx hb dL_law_551 (by decide) ?_
    refine lv_iadd hx hb dL_law_552 ?_
    refine lv_topi (fun v706 ev706 => ?_)
    obtain rfl : v706 = (3 : Int32) := ev706.trans (by decide)
    refine va_sld hx hb hX hbl hbA hS (by unfold vp_in; decide) dL_law_553 ?_
    refine W.eq (g2 := F0 m 554 ls [.int (xs 3), .int (xs 2), .int (xs 1), .ref (w 0), .int r703]) rfl ?_
    refine lv_if_eq (tgt := 561) hx hb dL_law_554 (by decide) (fun c707 => ?_) (fun c707 => ?_)
    · exact absurd c707 c695
    refine lv_iconst (v := 1) hx hb dL_law_557 (by decide) ?_
    refine lv_goto (tgt := 562) hx hb dL_law_558 (by decide) ?_
    refine vp_callSi (W.runV (As := [.int (xs 1), .int (xs 2), .int 1]) (rest := [.int r703]) ⟨hx, hb, hml, hown, hts⟩ (c_X7_consume l dC dI w cz ci (xs 1) (xs 2) 1) (cwV 3 hts gL_law_X7_consume rfl rfl rfl (by decide +kernel) ⟨Nat.le_of_ble_eq_true rfl, Nat.le_of_ble_eq_true rfl⟩) ⟨mx_blind, va_recv hKm0 (xP_l hPm) (ci := 7) (q0 := 0) rfl rfl, fun U hU hW => ⟨rfl, mx_pre (xP_l hPm) hKm0 hU hW⟩⟩ rfl rfl hl.1 rfl (lv_room (Nat.le_of_ble_eq_true rfl)) dL_law_562 ⟨Nat.le_of_ble_eq_true rfl, Nat.le_of_ble_eq_true rfl⟩) (fun r708 hr708 => ?_)
    refine lv_icmp_eq (tgt := 1053) hx hb dL_law_565 (by decide) (fun c709 => ?_) (fun c709 => ?_)
    · exact lw_tail l C0 H locs hS ls hl 79 13150 (by decide) (by decide)
    · exact absurd (hr703.trans hr708.symm) c709
set_option maxHeartbeats 4000000 in
set_option maxRecDepth 100000 in
theorem lw_c10 {p : Program} {e : Env} {s : State} {m : MethodId} {below : List Frame} {meth : Method} {c : Code} (l : Launch) {b : Nat} {xs : Nat → Int32} (C0 : lw_At p s m meth c b 7 xs) {dC : Nat → ClassId} {dI : Nat → Nat → Nat} {v : Nat → Nat} {cy : Nat → ClassId} {w u : Nat → Nat} {cz ci cO cW : ClassId} (hKx : va_K (dC, dI) vwCl (fxT cy) s) (hKm : va_K (dC, dI) vwCl (mxT2 cz ci cO cW) s) (H : Heap) (locs : List Loc) (hP : va_P (dC, dI) vwCl (fxW v cy ++ (mxW w cz ci ++ lgW w u cO cW)) H) (hD : va_D (fun q : Nat => s.heap.size ≤ q) (fxW v cy ++ (mxW w cz ci ++ lgW w u cO cW))) (hS : va_S (fun q : Nat => s.heap.size ≤ q) s.heap H locs) (ls : Array Slot) (hl : lv_has ls 4 [(3, .int 0), (2, .ref (w 0)), (1, .ref (v 0)), (0, .ref b)]) : W p l e room_1 s m #[Value.ref b] below meth c H locs 79 13150 (lw_Z below #[Value.ref b] s) (F0 m 570 ls []) := by
  obtain ⟨hx, hb, hr, hml, hown, hts0, hX, hbl, hlocks, hgv⟩ := id C0
  have hown : s.vm.findClass RL = some m.cls := hown
  have hts : ∀ w ∈ wsL_law, w.before #[Value.ref b] s = true := fun w h => hts0 w (wsL_law_in w h)
  have hA : ∀ q : Nat, s.heap.size ≤ q → (fun q : Nat => s.heap.size ≤ q) q := fun _ h => h
  have hbA : ¬ (fun q : Nat => s.heap.size ≤ q) b := Nat.not_le.mpr hbl
  have hKm0 : va_K (dC, dI) vwCl (mxT cz ci) s := hKm.sub [0, 1] rfl
  have hPm := xP_r hP
  have hDm := xD_r hD
  refine lv_aload_n hx hb dL_law_570 rfl (lv_at hl 2 rfl) ?_
  refine lv_aload_n hx hb dL_law_571 rfl (lv_at hl 3 rfl) ?_
  refine lv_iload_n hx hb dL_law_572 rfl (lv_at hl 0 rfl) ?_
  refine lv_iconst (v := 1) hx hb dL_law_573 (by decide) ?_
  refine lv_iadd hx hb dL_law_574 ?_
  refine lv_topi (fun v710 ev710 => ?_)
  obtain rfl : v710 = (1 : Int32) := ev710.trans (by decide)
  refine va_sld hx hb hX hbl hbA hS (by unfold vp_in; decide) dL_law_575 ?_
  refine W.eq (g2 := F0 m 576 ls [.int (xs 1), .ref (v 0)]) rfl ?_
  refine vp_callSi (W.runV (As := [.int (xs 1)]) (rest := []) ⟨hx, hb, hml, hown, hts⟩ (c_X5_seen l dC dI v cy (xs 1)) (cwV 1 hts gL_law_X5_seen rfl rfl rfl (by decide +kernel) ⟨Nat.le_of_ble_eq_true rfl, Nat.le_of_ble_eq_true rfl⟩) ⟨fx_blind, va_recv hKx (xP_l hP) (ci := 5) (q0 := 0) rfl rfl, fun U hU hW => ⟨rfl, fx_pre (xP_l hP) hKx hU hW⟩⟩ rfl rfl hl.1 rfl (lv_room (Nat.le_of_ble_eq_true rfl)) dL_law_576 ⟨Nat.le_of_ble_eq_true rfl, Nat.le_of_ble_eq_true rfl⟩) (fun r711 hr711 => ?_)
  refine lv_aload_n hx hb dL_law_579 rfl (lv_at hl 1 rfl) ?_
  refine lv_aload_n hx hb dL_law_580 rfl (lv_at hl 3 rfl) ?_
  refine lv_iload_n hx hb dL_law_581 rfl (lv_at hl 0 rfl) ?_
  refine lv_iconst (v := 1) hx hb dL_law_582 (by decide) ?_
  refine lv_iadd hx hb dL_law_583 ?_
  refine lv_topi (fun v712 ev712 => ?_)
  obtain rfl : v712 = (1 : Int32) := ev712.trans (by decide)
  refine va_sld hx hb hX hbl hbA hS (by unfold vp_in; decide) dL_law_584 ?_
  refine W.eq (g2 := F0 m 585 ls [.int (xs 1), .ref (w 0), .int r711]) rfl ?_
  refine vp_callSi (W.runV (As := [.int (xs 1)]) (rest := [.int r711]) ⟨hx, hb, hml, hown, hts⟩ (c_X7_seen l dC dI w cz ci (xs 1)) (cwV 1 hts gL_law_X7_seen rfl rfl rfl (by decide +kernel) ⟨Nat.le_of_ble_eq_true rfl, Nat.le_of_ble_eq_true rfl⟩) ⟨mx_blind, va_recv hKm0 (xP_l hPm) (ci := 7) (q0 := 0) rfl rfl, fun U hU hW => ⟨rfl, mx_pre (xP_l hPm) hKm0 hU hW⟩⟩ rfl rfl hl.1 rfl (lv_room (Nat.le_of_ble_eq_true rfl)) dL_law_585 ⟨Nat.le_of_ble_eq_true rfl, Nat.le_of_ble_eq_true rfl⟩) (fun r713 hr713 => ?_)
  refine lv_icmp_eq (tgt := 1053) hx hb dL_law_588 (by decide) (fun c714 => ?_) (fun c714 => ?_)
  · exact lw_tail l C0 H locs hS ls hl 79 13150 (by decide) (by decide)
  · exact absurd (hr711.trans hr713.symm) c714
set_option maxHeartbeats 4000000 in
set_option maxRecDepth 100000 in
theorem lw_c11 {p : Program} {e : Env} {s : State} {m : MethodId} {below : List Frame} {meth : Method} {c : Code} (l : Launch) {b : Nat} {xs : Nat → Int32} (C0 : lw_At p s m meth c b 7 xs) {dC : Nat → ClassId} {dI : Nat → Nat → Nat} {v : Nat → Nat} {cy : Nat → ClassId} {w u : Nat → Nat} {cz ci cO cW : ClassId} (hKx : va_K (dC, dI) vwCl (fxT cy) s) (hKm : va_K (dC, dI) vwCl (mxT2 cz ci cO cW) s) (H : Heap) (locs : List Loc) (hP : va_P (dC, dI) vwCl (fxW v cy ++ (mxW w cz ci ++ lgW w u cO cW)) H) (hD : va_D (fun q : Nat => s.heap.size ≤ q) (fxW v cy ++ (mxW w cz ci ++ lgW w u cO cW))) (hS : va_S (fun q : Nat => s.heap.size ≤ q) s.heap H locs) (ls : Array Slot) (hl : lv_has ls 4 [(3, .int 0), (2, .ref (w 0)), (1, .ref (v 0)), (0, .ref b)]) : W p l e room_1 s m #[Value.ref b] below meth c H locs 79 13150 (lw_Z below #[Value.ref b] s) (F0 m 593 ls []) := by
  obtain ⟨hx, hb, hr, hml, hown, hts0, hX, hbl, hlocks, hgv⟩ := id C0
  have hown : s.vm.findClass RL = some m.cls := hown
  have hts : ∀ w ∈ wsL_law, w.before #[Value.ref b] s = true := fun w h => hts0 w (wsL_law_in w h)
  have hA : ∀ q : Nat, s.heap.size ≤ q → (fun q : Nat => s.heap.size ≤ q) q := fun _ h => h
  have hbA : ¬ (fun q : Nat => s.heap.size ≤ q) b := Nat.not_le.mpr hbl
  have hKm0 : va_K (dC, dI) vwCl (mxT cz ci) s := hKm.sub [0, 1] rfl
  have hPm := xP_r hP
  have hDm := xD_r hD
  refine lv_aload_n hx hb dL_law_593 rfl (lv_at hl 2 rfl) ?_
  refine lv_aload_n hx hb dL_law_594 rfl (lv_at hl 3 rfl) ?_
  refine lv_iload_n hx hb dL_law_595 rfl (lv_at hl 0 rfl) ?_
  refine lv_iconst (v := 1) hx hb dL_law_596 (by decide) ?_
  refine lv_iadd hx hb dL_law_597 ?_
  refine lv_topi (fun v715 ev715 => ?_)
  obtain rfl : v715 = (1 : Int32) := ev715.trans (by decide)
  refine va_sld hx hb hX hbl hbA hS (by unfold vp_in; decide) dL_law_598 ?_
  refine W.eq (g2 := F0 m 599 ls [.int (xs 1), .ref (v 0)]) rfl ?_
  refine lv_aload_n hx hb dL_law_599 rfl (lv_at hl 3 rfl) ?_
  refine lv_iload_n hx hb dL_law_600 rfl (lv_at hl 0 rfl) ?_
  refine lv_iconst (v := 2) hx hb dL_law_601 (by decide) ?_
  refine lv_iadd hx hb dL_law_602 ?_
  refine lv_topi (fun v716 ev716 => ?_)
  obtain rfl : v716 = (2 : Int32) := ev716.trans (by decide)
  refine va_sld hx hb hX hbl hbA hS (by unfold vp_in; decide) dL_law_603 ?_
  refine W.eq (g2 := F0 m 604 ls [.int (xs 2), .int (xs 1), .ref (v 0)]) rfl ?_
  have hFc := xfree (xD_l hD) hS hA
  refine va_calli (va_runV (As := [.int (xs 1), .int (xs 2)]) (rest := []) ⟨hx, hb, hml, hown, hts⟩ (c_X5_member l dC dI v cy H.size (xs 1) (xs 2)) (cwV 2 hts gL_law_X5_member rfl rfl rfl (by decide +kernel) ⟨Nat.le_of_ble_eq_true rfl, Nat.le_of_ble_eq_true rfl⟩) ⟨fun a U g mk q => by obtain ⟨q0, q1, ⟨qP, qK⟩, qD⟩ := q; exact ⟨q0, q1, ⟨qP, va_K.moved (u := U) (U := U.calling g mk a) (Vm.Alike.refl U.vm) qK⟩, qD⟩, va_recv hKx (xP_l hP) (ci := 5) (q0 := 0) rfl rfl, fun U hU hW => ⟨rfl, by rw [hU], fx_pre (xP_l hP) hKx hU hW, (xD_l hD).weaken (fun _ _ _ _ => trivial)⟩⟩ rfl rfl hl.1 rfl (lv_room (Nat.le_of_ble_eq_true rfl)) dL_law_604 ⟨Nat.le_of_ble_eq_true rfl, Nat.le_of_ble_eq_true rfl⟩) hS (fun q _ h => hFc q h) hFc (fun r717 u9 t H1 locs ht hvm hr717 hB hz1 hk1 hS => ?_)
  have hPm := xj_keep hP hD hk1
  generalize H1 = H at hPm hS ⊢
  refine lv_aload_n hx hb dL_law_607 rfl (lv_at hl 1 rfl) ?_
  refine lv_aload_n hx hb dL_law_608 rfl (lv_at hl 3 rfl) ?_
  refine lv_iload_n hx hb dL_law_609 rfl (lv_at hl 0 rfl) ?_
  refine lv_iconst (v := 1) hx hb dL_law_610 (by decide) ?_
  refine lv_iadd hx hb dL_law_611 ?_
  refine lv_topi (fun v718 ev718 => ?_)
  obtain rfl : v718 = (1 : Int32) := ev718.trans (by decide)
  refine va_sld hx hb hX hbl hbA hS (by unfold vp_in; decide) dL_law_612 ?_
  refine W.eq (g2 := F0 m 613 ls [.int (xs 1), .ref (w 0), .int r717]) rfl ?_
  refine lv_aload_n hx hb dL_law_613 rfl (lv_at hl 3 rfl) ?_
  refine lv_iload_n hx hb dL_law_614 rfl (lv_at hl 0 rfl) ?_
  refine lv_iconst (v := 2) hx hb dL_law_615 (by decide) ?_
  refine lv_iadd hx hb dL_law_616 ?_
  refine lv_topi (fun v719 ev719 => ?_)
  obtain rfl : v719 = (2 : Int32) := ev719.trans (by decide)
  refine va_sld hx hb hX hbl hbA hS (by unfold vp_in; decide) dL_law_617 ?_
  refine W.eq (g2 := F0 m 618 ls [.int (xs 2), .int (xs 1), .ref (w 0), .int r717]) rfl ?_
  have hFc := xfree (xD_l hDm) hS hA
  refine va_calli (va_runV (As := [.int (xs 1), .int (xs 2)]) (rest := [.int r717]) ⟨hx, hb, hml, hown, hts⟩ (c_X7_member l dC dI w cz ci H.size (xs 1) (xs 2)) (cwV 2 hts gL_law_X7_member rfl rfl rfl (by decide +kernel) ⟨Nat.le_of_ble_eq_true rfl, Nat.le_of_ble_eq_true rfl⟩) ⟨fun a U g mk q => by obtain ⟨q0, q1, ⟨qP, qK⟩, qD⟩ := q; exact ⟨q0, q1, ⟨qP, va_K.moved (u := U) (U := U.calling g mk a) (Vm.Alike.refl U.vm) qK⟩, qD⟩, va_recv hKm0 (xP_l hPm) (ci := 7) (q0 := 0) rfl rfl, fun U hU hW => ⟨rfl, by rw [hU], ⟨by rw [hU]; exact xP_l hPm, va_K.moved hW.alike hKm0⟩, (xD_l hDm).weaken (fun _ _ _ _ => trivial)⟩⟩ rfl rfl hl.1 rfl (lv_room (Nat.le_of_ble_eq_true rfl)) dL_law_618 ⟨Nat.le_of_ble_eq_true rfl, Nat.le_of_ble_eq_true rfl⟩) hS (fun q _ h => hFc q h) hFc (fun r720 u9 t H1 locs ht hvm hr720 hB hz1 hk1 hS => ?_)
  generalize H1 = H at hS ⊢
  refine lv_icmp_eq (tgt := 1053) hx hb dL_law_621 (by decide) (fun c721 => ?_) (fun c721 => ?_)
  · exact lw_tail l C0 H locs hS ls hl 79 13150 (by decide) (by decide)
  · exact absurd (hr717.trans hr720.symm) c721
