set_option maxHeartbeats 4000000 in
set_option maxRecDepth 100000 in
/-- THE LAW, from its entry -/
theorem whole_start {p : Program} {e : Env} {s : State} {m : MethodId} {below : List Frame} {meth : Method} {c : Code} (l : Launch) {b L : Nat} {xs : Nat → Int32} (hL : L ≤ 448) (C0 : lw_At p s m meth c b L xs) : W p l e room_1 s m #[Value.ref b] below meth c s.heap [] 0 0 (lw_Z below #[Value.ref b] s) (entryFrame m ([Value.ref b] : List Value).toArray 4) := by
  obtain ⟨hx, hb, hr, hml, hown, hts0, hX, hbl, hlocks, hgv⟩ := id C0
  have hown : s.vm.findClass RL = some m.cls := hown
  have hts : ∀ w ∈ wsL_law, w.before #[Value.ref b] s = true := fun w h => hts0 w (wsL_law_in w h)
  have hA : ∀ q : Nat, s.heap.size ≤ q → (fun q : Nat => s.heap.size ≤ q) q := fun _ h => h
  have hbA : ¬ (fun q : Nat => s.heap.size ≤ q) b := Nat.not_le.mpr hbl
  obtain ⟨c0, iS0, hKn0⟩ := u_known (C := RX0) (T := TX0) (N := 8) (n := 8) hts inlX0 (hts0 (.instantiable RX0 8) (List.mem_of_getElem? (i := 283) rfl))
  obtain ⟨c1, iS1, hKn1⟩ := u_known (C := RX1) (T := TX1) (N := 3) (n := 3) hts inlX1 (hts0 (.instantiable RX1 3) (List.mem_of_getElem? (i := 69) rfl))
  obtain ⟨c2, iS2, hKn2⟩ := u_known (C := RX2) (T := TX2) (N := 6) (n := 6) hts inlX2 (hts0 (.instantiable RX2 6) (List.mem_of_getElem? (i := 116) rfl))
  obtain ⟨c3, iS3, hKn3⟩ := u_known (C := RX3) (T := TX3) (N := 6) (n := 6) hts inlX3 (hts0 (.instantiable RX3 6) (List.mem_of_getElem? (i := 39) rfl))
  obtain ⟨c4, iS4, hKn4⟩ := u_known (C := RX4) (T := TX4) (N := 7) (n := 7) hts inlX4 (hts0 (.instantiable RX4 7) (List.mem_of_getElem? (i := 130) rfl))
  obtain ⟨c5, iS5, hKn5⟩ := u_known (C := RX5) (T := TX5) (N := 6) (n := 6) hts inlX5 (hts0 (.instantiable RX5 6) (List.mem_of_getElem? (i := 26) rfl))
  obtain ⟨c6, iS6, hKn6⟩ := u_known (C := RX6) (T := TX6) (N := 7) (n := 7) hts inlX6 (hts0 (.instantiable RX6 7) (List.mem_of_getElem? (i := 517) rfl))
  obtain ⟨c7, iS7, hKn7⟩ := u_known (C := RX7) (T := TX7) (N := 18) (n := 18) hts inlX7 (hts0 (.instantiable RX7 18) (List.mem_of_getElem? (i := 508) rfl))
  obtain ⟨dC, dI, hKc⟩ : ∃ (dC : Nat → ClassId) (dI : Nat → Nat → Nat), ∀ (k : Nat) (q : vw_C), vwCl[k]? = some q → u_Kn s q.1 q.2.1 q.2.2 (dC k) (dI k) := by
    refine ⟨fun k => ([c0, c1, c2, c3, c4, c5, c6, c7] : List ClassId).getD k c0, fun k => ([iS0, iS1, iS2, iS3, iS4, iS5, iS6, iS7] : List (Nat → Nat)).getD k iS0, ?_⟩
    intro k q hq
    match k, hq with
    | 0, hq => cases hq; exact hKn0
    | 1, hq => cases hq; exact hKn1
    | 2, hq => cases hq; exact hKn2
    | 3, hq => cases hq; exact hKn3
    | 4, hq => cases hq; exact hKn4
    | 5, hq => cases hq; exact hKn5
    | 6, hq => cases hq; exact hKn6
    | 7, hq => cases hq; exact hKn7
    | k + 8, hq => simp [vwCl] at hq
  have hS : va_S (fun q : Nat => s.heap.size ≤ q) s.heap s.heap [] := va_S.rf
  have hK : va_K (dC, dI) vwCl [] s := ⟨hKc, fun k q h => by simp at h⟩
  have hP : va_P (dC, dI) vwCl [] s.heap := fun k q h => by simp at h
  have hD : va_D (fun q : Nat => s.heap.size ≤ q) [] := ⟨fun i j p q h => by simp at h, fun k q h => by simp at h⟩
  have hl := lv_entry ([.ref b]) (n := 4) (Nat.le_of_ble_eq_true rfl)
  rw [lg_entry_eq]
  generalize (lg_sl ([.ref b]) ++ List.replicate (4 - (lg_sl ([.ref b])).length) Slot.unset).toArray = ls at hl ⊢
  have hl : lv_has ls 4 [(0, .ref b)] := hl
  have hoP : va_AO "TallyLogs$Partition" s := va_AO.of (hts0 (.arrayOver (.object "TallyLogs$Partition")) (List.mem_of_getElem? (i := 34) rfl))
  have hoR : va_AO "TallyLogs$Producer" s := va_AO.of (hts0 (.arrayOver (.object "TallyLogs$Producer")) (List.mem_of_getElem? (i := 36) rfl))
  have hoG : va_AO "TallyLogs$Group" s := va_AO.of (hts0 (.arrayOver (.object "TallyLogs$Group")) (List.mem_of_getElem? (i := 38) rfl))
  have hoE : va_AO "TallyLogs$Entry" s := va_AO.of (hts0 (.arrayOver (.object "TallyLogs$Entry")) (List.mem_of_getElem? (i := 136) rfl))
  have hoL : va_AO "TallyLogs$Replica" s := va_AO.of (hts0 (.arrayOver (.object "TallyLogs$Replica")) (List.mem_of_getElem? (i := 122) rfl))
  have hn41 : va_Nw (.methodLinkNest RX5 41 yX1_init "TallyLogs") s := va_Nw.of rfl (hts0 (.methodLinkNest RX5 41 yX1_init "TallyLogs") (List.mem_of_getElem? (i := 70) rfl))
  have hN : xN s := ⟨va_Nw.of rfl (hts0 (.methodLinkNest RX1 28 yX5_contains "TallyLogs") (List.mem_of_getElem? (i := 430) rfl)), va_Nw.of rfl (hts0 (.methodLinkNest RX2 30 yX5_leastOf "TallyLogs") (List.mem_of_getElem? (i := 123) rfl)), va_Nw.of rfl (hts0 (.methodLinkNest RX2 37 yX5_contains "TallyLogs") (List.mem_of_getElem? (i := 129) rfl)), hoL, hoE⟩
  refine va_new (ci := 5) (fs := [.null, .null, .null, .int 0, .int 0, .null]) (C := RX5) (T := TX5) (N := 6) hx hb hts inlX5 tyX5 tyX5_ok hown (hts (.classLink RL 7 RX5) (by decide +kernel)) (hts (.instantiable RX5 6) (by decide +kernel)) (hts (.initialized RX5) (by decide +kernel)) hK hP hD hS hA rfl (fun j hj => by rcases (show j = 0 ∨ j = 1 ∨ j = 2 ∨ j = 3 ∨ j = 4 ∨ j = 5 by omega) with rfl | rfl | rfl | rfl | rfl | rfl <;> rfl) (Nat.le_of_ble_eq_true rfl) (Nat.le_of_ble_eq_true rfl) dL_law_0 (fun q0 H hP hD hS => ?_)
  have hP : va_P (dC, dI) vwCl [(q0, .inr (5, [.null, .null, .null, .int 0, .int 0, .null]))] H := hP
  have hD : va_D (fun q : Nat => s.heap.size ≤ q) [(q0, .inr (5, [.null, .null, .null, .int 0, .int 0, .null]))] := hD
  refine W.widen (k := 1) (n := 6) (by omega) (by omega) ?_
  refine lv_dup hx hb dL_law_3 rfl ?_
  have hPc := hP.sub (ws' := [(q0, .inr (5, [.null, .null, .null, .int 0, .int 0, .null]))]) [0] rfl
  have hDc := hD.sub (ws' := [(q0, .inr (5, [.null, .null, .null, .int 0, .int 0, .null]))]) [0] (by decide) rfl
  have hKc := hK.sub (tys' := []) [] rfl
  have hFc := va_free (wc := [(q0, .inr (5, [.null, .null, .null, .int 0, .int 0, .null]))]) hD hS hA [0] rfl
  refine va_callv (va_runI (As := []) (rest := [.ref q0]) ⟨hx, hb, hml, hown, hts⟩ (c_X5_init l dC dI q0 H.size) (cwI 0 hts gL_law_X5_init rfl rfl rfl (hts (.initialized RX5) (by decide +kernel)) (hts (.methodLink RL 9 yX5_init) (by decide +kernel)) (hts (.instanceMethod yX5_init) (by decide +kernel)) rfl (by decide +kernel) ⟨Nat.le_of_ble_eq_true rfl, Nat.le_of_ble_eq_true rfl⟩) ⟨fun a U g mk q => by obtain ⟨q0, q1, qP, qK, qD, qo1, qo2, qo3, qn1⟩ := q; exact ⟨q0, q1, qP, va_K.moved (u := U) (U := U.calling g mk a) (Vm.Alike.refl U.vm) qK, qD, va_AO.moved (u := U) (U := U.calling g mk a) (Vm.Alike.refl U.vm) qo1, va_AO.moved (u := U) (U := U.calling g mk a) (Vm.Alike.refl U.vm) qo2, va_AO.moved (u := U) (U := U.calling g mk a) (Vm.Alike.refl U.vm) qo3, va_Nw.same rfl (rfl : U.vm = (U.calling g mk a).vm) qn1⟩, fun U hU hW => ⟨rfl, by rw [hU], by rw [hU]; exact hPc, va_K.moved hW.alike hKc, hDc.weaken (fun _ _ _ _ => trivial), va_AO.moved hW.alike hoP, va_AO.moved hW.alike hoR, va_AO.moved hW.alike hoG, va_Nw.warmM hW hn41⟩⟩ rfl rfl hl.1 rfl (lv_room (Nat.le_of_ble_eq_true rfl)) dL_law_4 ⟨Nat.le_of_ble_eq_true rfl, Nat.le_of_ble_eq_true rfl⟩) hS (fun q _ h => hFc q h) hFc (fun u9 t H1 locs ht hvm hw hB hz1 hk1 hS => ?_)
  obtain ⟨v, cy, he0, hP1, hK1, hD1⟩ := hB
  subst he0
  rw [ht] at hP1
  have hK1 := va_K.moved hvm.symm hK1
  obtain ⟨hP, hD⟩ := va_join (wr := []) (w1 := fxW v cy) hP hD [0] [] rfl rfl (by decide +kernel) (by decide +kernel) hk1 hFc hP1 hD1
  generalize H1 = H at hP hS ⊢
  have hKx : va_K (dC, dI) vwCl (fxT cy) s := hK1
  have hP : va_P (dC, dI) vwCl (fxW v cy) H := hP
  have hD : va_D (fun q : Nat => s.heap.size ≤ q) (fxW v cy) := hD
  refine W.widen (k := 18) (n := 84) (by omega) (by omega) ?_
  refine lv_astore_n (lv' := [(1, .ref (v 0)), (0, .ref b)]) hx hb dL_law_7 rfl hl (by decide) rfl (fun ls hl => ?_)
  obtain ⟨cO, cW, cC, hxg⟩ := xgA_of (hts0 (.arrayOver (.array (.object "TallyLogsModel$Log"))) (List.mem_of_getElem? (i := 514) rfl)) (hts0 (.arrayOver (.object "TallyLogsModel$Log")) (List.mem_of_getElem? (i := 515) rfl))
  have hcl9 : va_Nw (.classLink RX7 9 "[[LTallyLogsModel$Log;") s := va_Nw.of rfl (hts0 (.classLink RX7 9 "[[LTallyLogsModel$Log;") (List.mem_of_getElem? (i := 513) rfl))
  have hn67 : va_Nw (.methodLinkNest RX7 67 yX6_init "TallyLogsModel") s := va_Nw.of rfl (hts0 (.methodLinkNest RX7 67 yX6_init "TallyLogsModel") (List.mem_of_getElem? (i := 518) rfl))
  refine va_new (ci := 7) (fs := [.null, .null, .null, .null, .null, .null, .null, .null, .null, .null, .null, .null, .null, .null, .null, .null, .int 0, .int 0]) (C := RX7) (T := TX7) (N := 18) hx hb hts inlX7 tyX7 tyX7_ok hown (hts (.classLink RL 10 RX7) (by decide +kernel)) (hts (.instantiable RX7 18) (by decide +kernel)) (hts (.initialized RX7) (by decide +kernel)) hK hP hD hS hA rfl (fun j hj => by rcases (show j = 0 ∨ j = 1 ∨ j = 2 ∨ j = 3 ∨ j = 4 ∨ j = 5 ∨ j = 6 ∨ j = 7 ∨ j = 8 ∨ j = 9 ∨ j = 10 ∨ j = 11 ∨ j = 12 ∨ j = 13 ∨ j = 14 ∨ j = 15 ∨ j = 16 ∨ j = 17 by omega) with rfl | rfl | rfl | rfl | rfl | rfl | rfl | rfl | rfl | rfl | rfl | rfl | rfl | rfl | rfl | rfl | rfl | rfl <;> rfl) (Nat.le_of_ble_eq_true rfl) (Nat.le_of_ble_eq_true rfl) dL_law_8 (fun q1 H hP hD hS => ?_)
  refine W.widen (k := 19) (n := 102) (by omega) (by omega) ?_
  refine lv_dup hx hb dL_law_11 rfl ?_
  have hPc := hP.sub (ws' := [(q1, .inr (7, [.null, .null, .null, .null, .null, .null, .null, .null, .null, .null, .null, .null, .null, .null, .null, .null, .int 0, .int 0]))]) [18] rfl
  have hDc := hD.sub (ws' := [(q1, .inr (7, [.null, .null, .null, .null, .null, .null, .null, .null, .null, .null, .null, .null, .null, .null, .null, .null, .int 0, .int 0]))]) [18] (by decide) rfl
  have hKc := hK.sub (tys' := []) [] rfl
  have hFc := va_free (wc := [(q1, .inr (7, [.null, .null, .null, .null, .null, .null, .null, .null, .null, .null, .null, .null, .null, .null, .null, .null, .int 0, .int 0]))]) hD hS hA [18] rfl
  refine va_callv (va_runI (As := []) (rest := [.ref q1]) ⟨hx, hb, hml, hown, hts⟩ (c_X7_init l dC dI q1 H.size cO cW cC) (cwI 0 hts gL_law_X7_init rfl rfl rfl (hts (.initialized RX7) (by decide +kernel)) (hts (.methodLink RL 12 yX7_init) (by decide +kernel)) (hts (.instanceMethod yX7_init) (by decide +kernel)) rfl (by decide +kernel) ⟨Nat.le_of_ble_eq_true rfl, Nat.le_of_ble_eq_true rfl⟩) ⟨fun a U g mk q => by obtain ⟨q0, q1, qP, qK, qD, qn1, qo1, qn2⟩ := q; exact ⟨q0, q1, qP, va_K.moved (u := U) (U := U.calling g mk a) (Vm.Alike.refl U.vm) qK, qD, va_Nw.same rfl (rfl : U.vm = (U.calling g mk a).vm) qn1, xgA.moved (u := U) (U := U.calling g mk a) (Vm.Alike.refl U.vm) qo1, va_Nw.same rfl (rfl : U.vm = (U.calling g mk a).vm) qn2⟩, fun U hU hW => ⟨rfl, by rw [hU], by rw [hU]; exact hPc, va_K.moved hW.alike hKc, hDc.weaken (fun _ _ _ _ => trivial), xnw_warm rfl hW hcl9, xgA.moved hW.alike hxg, va_Nw.warmM hW hn67⟩⟩ rfl rfl hl.1 rfl (lv_room (Nat.le_of_ble_eq_true rfl)) dL_law_12 ⟨Nat.le_of_ble_eq_true rfl, Nat.le_of_ble_eq_true rfl⟩) hS (fun q _ h => hFc q h) hFc (fun u9 t H1 locs ht hvm hw hB hz1 hk1 hS => ?_)
  obtain ⟨w, cz, ci, he0, hP1, hK1, hD1⟩ := hB
  subst he0
  rw [ht] at hP1
  have hK1 := va_K.moved hvm.symm hK1
  obtain ⟨hP, hD⟩ := va_join (wr := fxW v cy) (w1 := myW w cz ci cO cW) hP hD [18] [0, 1, 2, 3, 4, 5, 6, 7, 8, 9, 10, 11, 12, 13, 14, 15, 16, 17] rfl rfl (by decide +kernel) (by decide +kernel) hk1 hFc hP1 hD1
  generalize H1 = H at hP hS ⊢
  have hKm : va_K (dC, dI) vwCl (mxT2 cz ci cO cW) s := hK1
  refine W.widen (k := 79) (n := 13150) (by omega) (by omega) ?_
  refine lv_astore_n (lv' := [(2, .ref (w 0)), (1, .ref (v 0)), (0, .ref b)]) hx hb dL_law_15 rfl hl (by decide) rfl (fun ls hl => ?_)
  refine lv_iconst (v := 0) hx hb dL_law_16 (by decide) ?_
  refine lv_istore_n (lv' := [(3, .int 0), (2, .ref (w 0)), (1, .ref (v 0)), (0, .ref b)]) hx hb dL_law_17 rfl hl (by decide) rfl (fun ls hl => ?_)
  have hP : va_P (dC, dI) vwCl (fxW v cy ++ myW w cz ci cO cW) H := hP
  have hD : va_D (fun q : Nat => s.heap.size ≤ q) (fxW v cy ++ myW w cz ci cO cW) := hD
  obtain ⟨cyp, Lx, Kx, Nx, Tx, Ix, Qx, Jx, hPx, hDx, hKxp, hCx, hFx⟩ := fx_pool9 (A := fun q => (∃ (k : Nat) (e : va_E), (fxW v cy)[k]? = some (q, e))) (xP_l hP) (xD_in (xD_l hD)) hKx hoE hoL
  obtain ⟨czp, Ly, Ky, Ny, Ty, Qy, Iy, Jy, hPy, hDy, hKyp, hMy, hIy, hFy⟩ := my_pool9 (A := fun q => (∃ (k : Nat) (e : va_E), (myW w cz ci cO cW)[k]? = some (q, e))) (xP_r hP) (xD_in (xD_r hD)) hKm
  have hP9 : va_P (dC, dI) vwCl (va_pl Lx (pF cyp Kx Nx Tx Ix Qx Jx) ++ va_pl Ly (wF czp Ky Ny Ty Iy Qy Jy)) H := va_P.app hPx hPy
  have hD9 : va_D (fun q : Nat => s.heap.size ≤ q) (va_pl Lx (pF cyp Kx Nx Tx Ix Qx Jx) ++ va_pl Ly (wF czp Ky Ny Ty Iy Qy Jy)) := xD_two hD hDx hDy
  exact lw_loop l C0 hKxp hKyp hN hMy hL 64 0 rfl Lx Kx Tx Ix Qx Jx Iy Jy H locs ls ⟨hCx, hIy, ⟨_, _, s0, REP0 hCx hFx, MR0 hFy, SK0⟩, hP9, hD9⟩ hS hl
