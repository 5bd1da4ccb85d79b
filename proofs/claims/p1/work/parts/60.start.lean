theorem xo_spec {A : Array Value} {s : State} {t : FieldType} (h : (Cond.arrayOver (.array t)).before A s = true) : ∃ (comp cA : ClassId) (k : Class), s.vm.findClass (FieldType.array t).toString = some comp ∧ s.vm.classes[cA]? = some k ∧ k.kind = .array comp (.array t) ∧ s.vm.findClass ("[" ++ (FieldType.array t).toString) = some cA := by
  simp only [Cond.before, Cond.holds, Cond.value, beq_iff_eq] at h
  cases hc : s.vm.findClass (FieldType.array t).toString with
  | none => simp [hc] at h
  | some comp =>
    simp only [hc, Option.bind_some, Option.bind_eq_some_iff, Option.map_eq_some_iff] at h
    obtain ⟨cA, hi, k, hk, hb⟩ := h
    obtain ⟨hlt, hp, -⟩ := Array.findIdx?_eq_some_iff_getElem.mp hi
    rw [(Array.getElem?_eq_some_iff.mp hk).2] at hp
    cases hkind : k.kind with
    | array component ty =>
      rw [hkind] at hb hp
      simp at hb hp
      exact ⟨comp, cA, k, rfl, hk, by rw [hkind, hp, hb.1], hb.2⟩
    | _ => rw [hkind] at hb; simp at hb
theorem xgA_of {A : Array Value} {s : State} (h1 : (Cond.arrayOver (.array (.object "TallyLogsModel$Log"))).before A s = true) (h2 : (Cond.arrayOver (.object "TallyLogsModel$Log")).before A s = true) : ∃ cO cW cC, xgA cO cW cC s := by
  obtain ⟨comp, cA, k, a1, a2, a3, a4⟩ := xo_spec h1
  obtain ⟨cC, cB, kB, b1, b2, b3, b4, b5⟩ := Cond.arrayOver_spec h2
  have e : comp = cB := Option.some.inj (a1.symm.trans b5)
  subst e
  exact ⟨cA, comp, cC, a4, ⟨k, a2, a3⟩, ⟨kB, b3, b4⟩, b1, b5⟩
theorem xnw_warm {w : Cond} (hw : (w.onTables && w.keeps) = true) {s U : State} (hW : s.WarmedH U.vm) (h : va_Nw w s) : va_Nw w U := word_at hW (Or.inl hw) h
set_option maxHeartbeats 4000000 in
set_option maxRecDepth 100000 in
/-- THE LAW, from its entry -/
theorem whole_start {p : Program} {e : Env} {s : State} {m : MethodId} {below : List Frame} {meth : Method} {c : Code} (l : Launch) {b L : Nat} {xs : Nat → Int32} (hL : L ≤ 7) (C0 : lw_At p s m meth c b L xs) : W p l e room_1 s m #[Value.ref b] below meth c s.heap [] 0 0 (lw_Z below #[Value.ref b] s) (entryFrame m ([Value.ref b] : List Value).toArray 4) := by
  obtain ⟨hx, hb, hr, hml, hown, hts0, hX, hbl, hlocks, hgv⟩ := id C0
  have hown : s.vm.findClass RL = some m.cls := hown
  have hts : ∀ w ∈ wsL_law, w.before #[Value.ref b] s = true := fun w h => hts0 w (wsL_law_in w h)
  have hA : ∀ q : Nat, s.heap.size ≤ q → (fun q : Nat => s.heap.size ≤ q) q := fun _ h => h
  have hbA : ¬ (fun q : Nat => s.heap.size ≤ q) b := Nat.not_le.mpr hbl
  obtain ⟨c0, iS0, hKn0⟩ := u_known (C := RX0) (T := TX0) (N := 8) (n := 8) hts inlX0 (hts0 (.instantiable RX0 8) (List.mem_of_getElem? (i := 283) rfl))
  obtain ⟨c1, iS1, hKn1⟩ := u_known (C := RX1) (T := TX1) (N := 3) (n := 3) hts inlX1 (hts0 (.instantiable RX1 3) (List.mem_of_getElem? (i := 69) rfl))
  obtain ⟨c2, iS2, hKn2⟩ := u_known (C := RX2) (T := TX2) (N := 6) (n := 6) hts inlX2 (hts0 (.instantiable RX2 6) (List.mem_of_getElem? (i := 116) rfl))
  obtain ⟨c3, iS3, hKn3⟩ := u_known (C := RX3) (T := TX3) (N := 6) (n := 6) hts inlX3 (hts0 (.instantiable RX3 6) (List.mem_of_getElem? (i := 39) rfl))
  obtain ⟨c4, iS4, hKn4⟩ := u_known (C := RX4) (T := TX4) (N := 7) (n := 7) hts inlX4 (hts0 (.instantiable RX4 7) (List.mem_of_getElem? (i := 130) rfl))
  obtain ⟨c5, iS5, hKn5⟩ := u_known (C := RX5) (T := TX5) (N := 6) (n := 6) hts inlX5 (hts0 (.instantiable RX5 6) (List.mem_of_getElem? (i := 26) rfl))
  obtain ⟨c6, iS6, hKn6⟩ := u_known (C := RX6) (T := TX6) (N := 7) (n := 7) hts inlX6 (hts0 (.instantiable RX6 7) (List.mem_of_getElem? (i := 517) rfl))
  obtain ⟨c7, iS7, hKn7⟩ := u_known (C := RX7) (T := TX7) (N := 18) (n := 18) hts inlX7 (hts0 (.instantiable RX7 18) (List.mem_of_getElem? (i := 508) rfl))
  obtain ⟨dC, dI, hKc⟩ : ∃ (dC : Nat → ClassId) (dI : Nat → Nat → Nat), ∀ (k : Nat) (q : vw_C), vwCl[k]? = some q → u_Kn s q.1 q.2.1 q.2.2 (dC k) (dI k) := by
    refine ⟨fun k => ([c0, c1, c2, c3, c4, c5, c6, c7] : List ClassId).getD k c0, fun k => ([iS0, iS1, iS2, iS3, iS4, iS5, iS6, iS7] : List (Nat → Nat)).getD k iS0, ?_⟩
    intro k q hq
    match k, hq with
    | 0, hq => cases hq; exact hKn0
    | 1, hq => cases hq; exact hKn1
    | 2, hq => cases hq; exact hKn2
    | 3, hq => cases hq; exact hKn3
    | 4, hq => cases hq; exact hKn4
    | 5, hq => cases hq; exact hKn5
    | 6, hq => cases hq; exact hKn6
    | 7, hq => cases hq; exact hKn7
    | k + 8, hq => simp [vwCl] at hq
  have hS : va_S (fun q : Nat => s.heap.size ≤ q) s.heap s.heap [] := va_S.rf
  have hK : va_K (dC, dI) vwCl [] s := ⟨hKc, fun k q h => by simp at h⟩
  have hP : va_P (dC, dI) vwCl [] s.heap := fun k q h => by simp at h
  have hD : va_D (fun q : Nat => s.heap.size ≤ q) [] := ⟨fun i j p q h => by simp at h, fun k q h => by simp at h⟩
  have hl := lv_entry ([.ref b]) (n := 4) (Nat.le_of_ble_eq_true rfl)
  rw [lg_entry_eq]
  generalize (lg_sl ([.ref b]) ++ List.replicate (4 - (lg_sl ([.ref b])).length) Slot.unset).toArray = ls at hl ⊢
  have hl : lv_has ls 4 [(0, .ref b)] := hl
  have hoP : va_AO "TallyLogs$Partition" s := va_AO.of (hts0 (.arrayOver (.object "TallyLogs$Partition")) (List.mem_of_getElem? (i := 34) rfl))
  have hoR : va_AO "TallyLogs$Producer" s := va_AO.of (hts0 (.arrayOver (.object "TallyLogs$Producer")) (List.mem_of_getElem? (i := 36) rfl))
  have hoG : va_AO "TallyLogs$Group" s := va_AO.of (hts0 (.arrayOver (.object "TallyLogs$Group")) (List.mem_of_getElem? (i := 38) rfl))
  have hn41 : va_Nw (.methodLinkNest RX5 41 yX1_init "TallyLogs") s := va_Nw.of rfl (hts0 (.methodLinkNest RX5 41 yX1_init "TallyLogs") (List.mem_of_getElem? (i := 70) rfl))
  refine va_new (ci := 5) (fs := [.null, .null, .null, .int 0, .int 0, .null]) (C := RX5) (T := TX5) (N := 6) hx hb hts inlX5 tyX5 tyX5_ok hown (hts (.classLink RL 7 RX5) (by decide +kernel)) (hts (.instantiable RX5 6) (by decide +kernel)) (hts (.initialized RX5) (by decide +kernel)) hK hP hD hS hA rfl (fun j hj => by rcases (show j = 0 ∨ j = 1 ∨ j = 2 ∨ j = 3 ∨ j = 4 ∨ j = 5 by omega) with rfl | rfl | rfl | rfl | rfl | rfl <;> rfl) (Nat.le_of_ble_eq_true rfl) (Nat.le_of_ble_eq_true rfl) dL_law_0 (fun q0 H hP hD hS => ?_)
  have hP : va_P (dC, dI) vwCl [(q0, .inr (5, [.null, .null, .null, .int 0, .int 0, .null]))] H := hP
  have hD : va_D (fun q : Nat => s.heap.size ≤ q) [(q0, .inr (5, [.null, .null, .null, .int 0, .int 0, .null]))] := hD
  refine W.widen (k := 1) (n := 6) (by omega) (by omega) ?_
  refine lv_dup hx hb dL_law_3 rfl ?_
  have hPc := hP.sub (ws' := [(q0, .inr (5, [.null, .null, .null, .int 0, .int 0, .null]))]) [0] rfl
  have hDc := hD.sub (ws' := [(q0, .inr (5, [.null, .null, .null, .int 0, .int 0, .null]))]) [0] (by decide) rfl
  have hKc := hK.sub (tys' := []) [] rfl
  have hFc := va_free (wc := [(q0, .inr (5, [.null, .null, .null, .int 0, .int 0, .null]))]) hD hS hA [0] rfl
  refine va_callv (va_runI (As := []) (rest := [.ref q0]) ⟨hx, hb, hml, hown, hts⟩ (c_X5_init l dC dI q0 H.size) (cwI 0 hts gL_law_X5_init rfl rfl rfl (hts (.initialized RX5) (by decide +kernel)) (hts (.methodLink RL 9 yX5_init) (by decide +kernel)) (hts (.instanceMethod yX5_init) (by decide +kernel)) rfl (by decide +kernel) ⟨Nat.le_of_ble_eq_true rfl, Nat.le_of_ble_eq_true rfl⟩) ⟨fun a U g mk q => by obtain ⟨q0, q1, qP, qK, qD, qo1, qo2, qo3, qn1⟩ := q; exact ⟨q0, q1, qP, va_K.moved (u := U) (U := U.calling g mk a) (Vm.Alike.refl U.vm) qK, qD, va_AO.moved (u := U) (U := U.calling g mk a) (Vm.Alike.refl U.vm) qo1, va_AO.moved (u := U) (U := U.calling g mk a) (Vm.Alike.refl U.vm) qo2, va_AO.moved (u := U) (U := U.calling g mk a) (Vm.Alike.refl U.vm) qo3, va_Nw.same rfl (rfl : U.vm = (U.calling g mk a).vm) qn1⟩, fun U hU hW => ⟨rfl, by rw [hU], by rw [hU]; exact hPc, va_K.moved hW.alike hKc, hDc.weaken (fun _ _ _ _ => trivial), va_AO.moved hW.alike hoP, va_AO.moved hW.alike hoR, va_AO.moved hW.alike hoG, va_Nw.warmM hW hn41⟩⟩ rfl rfl hl.1 rfl (lv_room (Nat.le_of_ble_eq_true rfl)) dL_law_4 ⟨Nat.le_of_ble_eq_true rfl, Nat.le_of_ble_eq_true rfl⟩) hS (fun q _ h => hFc q h) hFc (fun u9 t H1 locs ht hvm hw hB hz1 hk1 hS => ?_)
  obtain ⟨v, cy, he0, hP1, hK1, hD1⟩ := hB
  subst he0
  rw [ht] at hP1
  have hK1 := va_K.moved hvm.symm hK1
  obtain ⟨hP, hD⟩ := va_join (wr := []) (w1 := fxW v cy) hP hD [0] [] rfl rfl (by decide +kernel) (by decide +kernel) hk1 hFc hP1 hD1
  generalize H1 = H at hP hS ⊢
  have hKx : va_K (dC, dI) vwCl (fxT cy) s := hK1
  have hP : va_P (dC, dI) vwCl (fxW v cy) H := hP
  have hD : va_D (fun q : Nat => s.heap.size ≤ q) (fxW v cy) := hD
  refine W.widen (k := 18) (n := 84) (by omega) (by omega) ?_
  refine lv_astore_n (lv' := [(1, .ref (v 0)), (0, .ref b)]) hx hb dL_law_7 rfl hl (by decide) rfl (fun ls hl => ?_)
  obtain ⟨cO, cW, cC, hxg⟩ := xgA_of (hts0 (.arrayOver (.array (.object "TallyLogsModel$Log"))) (List.mem_of_getElem? (i := 514) rfl)) (hts0 (.arrayOver (.object "TallyLogsModel$Log")) (List.mem_of_getElem? (i := 515) rfl))
  have hcl9 : va_Nw (.classLink RX7 9 "[[LTallyLogsModel$Log;") s := va_Nw.of rfl (hts0 (.classLink RX7 9 "[[LTallyLogsModel$Log;") (List.mem_of_getElem? (i := 513) rfl))
  have hn67 : va_Nw (.methodLinkNest RX7 67 yX6_init "TallyLogsModel") s := va_Nw.of rfl (hts0 (.methodLinkNest RX7 67 yX6_init "TallyLogsModel") (List.mem_of_getElem? (i := 518) rfl))
  refine va_new (ci := 7) (fs := [.null, .null, .null, .null, .null, .null, .null, .null, .null, .null, .null, .null, .null, .null, .null, .null, .int 0, .int 0]) (C := RX7) (T := TX7) (N := 18) hx hb hts inlX7 tyX7 tyX7_ok hown (hts (.classLink RL 10 RX7) (by decide +kernel)) (hts (.instantiable RX7 18) (by decide +kernel)) (hts (.initialized RX7) (by decide +kernel)) hK hP hD hS hA rfl (fun j hj => by rcases (show j = 0 ∨ j = 1 ∨ j = 2 ∨ j = 3 ∨ j = 4 ∨ j = 5 ∨ j = 6 ∨ j = 7 ∨ j = 8 ∨ j = 9 ∨ j = 10 ∨ j = 11 ∨ j = 12 ∨ j = 13 ∨ j = 14 ∨ j = 15 ∨ j = 16 ∨ j = 17 by omega) with rfl | rfl | rfl | rfl | rfl | rfl | rfl | rfl | rfl | rfl | rfl | rfl | rfl | rfl | rfl | rfl | rfl | rfl <;> rfl) (Nat.le_of_ble_eq_true rfl) (Nat.le_of_ble_eq_true rfl) dL_law_8 (fun q1 H hP hD hS => ?_)
  refine W.widen (k := 19) (n := 102) (by omega) (by omega) ?_
  refine lv_dup hx hb dL_law_11 rfl ?_
  have hPc := hP.sub (ws' := [(q1, .inr (7, [.null, .null, .null, .null, .null, .null, .null, .null, .null, .null, .null, .null, .null, .null, .null, .null, .int 0, .int 0]))]) [18] rfl
  have hDc := hD.sub (ws' := [(q1, .inr (7, [.null, .null, .null, .null, .null, .null, .null, .null, .null, .null, .null, .null, .null, .null, .null, .null, .int 0, .int 0]))]) [18] (by decide) rfl
  have hKc := hK.sub (tys' := []) [] rfl
  have hFc := va_free (wc := [(q1, .inr (7, [.null, .null, .null, .null, .null, .null, .null, .null, .null, .null, .null, .null, .null, .null, .null, .null, .int 0, .int 0]))]) hD hS hA [18] rfl
  refine va_callv (va_runI (As := []) (rest := [.ref q1]) ⟨hx, hb, hml, hown, hts⟩ (c_X7_init l dC dI q1 H.size cO cW cC) (cwI 0 hts gL_law_X7_init rfl rfl rfl (hts (.initialized RX7) (by decide +kernel)) (hts (.methodLink RL 12 yX7_init) (by decide +kernel)) (hts (.instanceMethod yX7_init) (by decide +kernel)) rfl (by decide +kernel) ⟨Nat.le_of_ble_eq_true rfl, Nat.le_of_ble_eq_true rfl⟩) ⟨fun a U g mk q => by obtain ⟨q0, q1, qP, qK, qD, qn1, qo1, qn2⟩ := q; exact ⟨q0, q1, qP, va_K.moved (u := U) (U := U.calling g mk a) (Vm.Alike.refl U.vm) qK, qD, va_Nw.same rfl (rfl : U.vm = (U.calling g mk a).vm) qn1, xgA.moved (u := U) (U := U.calling g mk a) (Vm.Alike.refl U.vm) qo1, va_Nw.same rfl (rfl : U.vm = (U.calling g mk a).vm) qn2⟩, fun U hU hW => ⟨rfl, by rw [hU], by rw [hU]; exact hPc, va_K.moved hW.alike hKc, hDc.weaken (fun _ _ _ _ => trivial), xnw_warm rfl hW hcl9, xgA.moved hW.alike hxg, va_Nw.warmM hW hn67⟩⟩ rfl rfl hl.1 rfl (lv_room (Nat.le_of_ble_eq_true rfl)) dL_law_12 ⟨Nat.le_of_ble_eq_true rfl, Nat.le_of_ble_eq_true rfl⟩) hS (fun q _ h => hFc q h) hFc (fun u9 t H1 locs ht hvm hw hB hz1 hk1 hS => ?_)
  obtain ⟨w, u, cz, ci, he0, hP1, hK1, hD1⟩ := hB
  subst he0
  rw [ht] at hP1
  have hK1 := va_K.moved hvm.symm hK1
  obtain ⟨hP, hD⟩ := va_join (wr := fxW v cy) (w1 := mxW w cz ci ++ lgW w u cO cW) hP hD [18] [0, 1, 2, 3, 4, 5, 6, 7, 8, 9, 10, 11, 12, 13, 14, 15, 16, 17] rfl rfl (by decide +kernel) (by decide +kernel) hk1 hFc hP1 hD1
  generalize H1 = H at hP hS ⊢
  have hKm : va_K (dC, dI) vwCl (mxT2 cz ci cO cW) s := hK1
  refine W.widen (k := 79) (n := 13150) (by omega) (by omega) ?_
  refine lv_astore_n (lv' := [(2, .ref (w 0)), (1, .ref (v 0)), (0, .ref b)]) hx hb dL_law_15 rfl hl (by decide) rfl (fun ls hl => ?_)
  refine lv_iconst (v := 0) hx hb dL_law_16 (by decide) ?_
  refine lv_istore_n (lv' := [(3, .int 0), (2, .ref (w 0)), (1, .ref (v 0)), (0, .ref b)]) hx hb dL_law_17 rfl hl (by decide) rfl (fun ls hl => ?_)
  refine lv_iload_n hx hb dL_law_18 rfl (lv_at hl 0 rfl) ?_
  refine lv_aload_n hx hb dL_law_19 rfl (lv_at hl 3 rfl) ?_
  refine va_slen hx hb hX hbl hbA hS dL_law_20 ?_
  refine lv_bipush (v := 7) hx hb dL_law_21 (by decide) ?_
  refine lv_isub hx hb dL_law_23 ?_
  refine lv_topi (fun v1 ev1 => ?_)
  refine lv_icmp_gt (tgt := 1059) hx hb dL_law_24 (by decide) (fun c9 => ?_) (fun c9 => ?_)
  · refine lv_iconst (v := 1) hx hb dL_law_1059 (by decide) ?_
    refine va_forget (fun q hq => hS.2.2 q hq) ?_
    refine W.widen (k := 600000) (n := 7302250) (by decide) (by decide) ?_
    exact lw_ret hx hb hr hlocks dL_law_1060
  · have h7 : ¬ L < 7 := fun h => c9 (by rw [ev1]; exact xL7 L h)
    obtain rfl : L = 7 := by omega
    refine lv_aload_n hx hb dL_law_27 rfl (lv_at hl 3 rfl) ?_
    refine lv_iload_n hx hb dL_law_28 rfl (lv_at hl 0 rfl) ?_
    refine va_sld hx hb hX hbl hbA hS (by unfold vp_in; decide) dL_law_29 ?_
    refine lv_bipush (v := 31) hx hb dL_law_30 (by decide) ?_
    refine lv_iand hx hb dL_law_32 ?_
    refine lv_topi (fun va eva => ?_)
    obtain ⟨j, hj, ej⟩ := pk_andE (xs (0 : Int32).toNatClampNeg) (m := 31) 5 (by decide)
    rw [ej] at eva
    rcases (show j = 0 ∨ j = 1 ∨ j = 2 ∨ j = 3 ∨ j = 4 ∨ j = 5 ∨ j = 6 ∨ j = 7 ∨ j = 8 ∨ j = 9 ∨ j = 10 ∨ j = 11 ∨ j = 12 ∨ j = 13 ∨ j = 14 ∨ j = 15 ∨ j = 16 ∨ j = 17 ∨ j = 18 ∨ j = 19 ∨ j = 20 ∨ j = 21 ∨ j = 22 ∨ j = 23 ∨ 24 ≤ j by omega) with rfl | rfl | rfl | rfl | rfl | rfl | rfl | rfl | rfl | rfl | rfl | rfl | rfl | rfl | rfl | rfl | rfl | rfl | rfl | rfl | rfl | rfl | rfl | rfl | hj24
    · obtain rfl : va = 0 := eva
      refine lv_tableIn (off := 111) (tgt := 144) hx hb dL_law_33 (by decide) (by decide) (by decide +kernel) (by decide) ?_
      exact lw_c0 l C0 hKx hKm H locs hP hD hS ls hl
    · obtain rfl : va = 1 := eva
      refine lv_tableIn (off := 154) (tgt := 187) hx hb dL_law_33 (by decide) (by decide) (by decide +kernel) (by decide) ?_
      exact lw_c1 l C0 hKx hKm H locs hP hD hS ls hl
    · obtain rfl : va = 2 := eva
      refine lv_tableIn (off := 203) (tgt := 236) hx hb dL_law_33 (by decide) (by decide) (by decide +kernel) (by decide) ?_
      exact lw_c2 l C0 hKx hKm H locs hP hD hS ls hl
    · obtain rfl : va = 3 := eva
      refine lv_tableIn (off := 226) (tgt := 259) hx hb dL_law_33 (by decide) (by decide) (by decide +kernel) (by decide) ?_
      exact lw_c3 l C0 hKx hKm H locs hP hD hS ls hl
    · obtain rfl : va = 4 := eva
      refine lv_tableIn (off := 317) (tgt := 350) hx hb dL_law_33 (by decide) (by decide) (by decide +kernel) (by decide) ?_
      exact lw_c4 l C0 hKx hKm H locs hP hD hS ls hl
    · obtain rfl : va = 5 := eva
      refine lv_tableIn (off := 350) (tgt := 383) hx hb dL_law_33 (by decide) (by decide) (by decide +kernel) (by decide) ?_
      exact lw_c5 l C0 hKx hKm H locs hP hD hS ls hl
    · obtain rfl : va = 6 := eva
      refine lv_tableIn (off := 383) (tgt := 416) hx hb dL_law_33 (by decide) (by decide) (by decide +kernel) (by decide) ?_
      exact lw_c6 l C0 hKx hKm H locs hP hD hS ls hl
    · obtain rfl : va = 7 := eva
      refine lv_tableIn (off := 406) (tgt := 439) hx hb dL_law_33 (by decide) (by decide) (by decide +kernel) (by decide) ?_
      exact lw_c7 l C0 hKx hKm H locs hP hD hS ls hl
    · obtain rfl : va = 8 := eva
      refine lv_tableIn (off := 455) (tgt := 488) hx hb dL_law_33 (by decide) (by decide) (by decide +kernel) (by decide) ?_
      exact lw_c8 l C0 hKx hKm H locs hP hD hS ls hl
    · obtain rfl : va = 9 := eva
      refine lv_tableIn (off := 478) (tgt := 511) hx hb dL_law_33 (by decide) (by decide) (by decide +kernel) (by decide) ?_
      exact lw_c9 l C0 hKx hKm H locs hP hD hS ls hl
    · obtain rfl : va = 10 := eva
      refine lv_tableIn (off := 537) (tgt := 570) hx hb dL_law_33 (by decide) (by decide) (by decide +kernel) (by decide) ?_
      exact lw_c10 l C0 hKx hKm H locs hP hD hS ls hl
    · obtain rfl : va = 11 := eva
      refine lv_tableIn (off := 560) (tgt := 593) hx hb dL_law_33 (by decide) (by decide) (by decide +kernel) (by decide) ?_
      exact lw_c11 l C0 hKx hKm H locs hP hD hS ls hl
    · obtain rfl : va = 12 := eva
      refine lv_tableIn (off := 593) (tgt := 626) hx hb dL_law_33 (by decide) (by decide) (by decide +kernel) (by decide) ?_
      exact lw_c12 l C0 hKx hKm H locs hP hD hS ls hl
    · obtain rfl : va = 13 := eva
      refine lv_tableIn (off := 626) (tgt := 659) hx hb dL_law_33 (by decide) (by decide) (by decide +kernel) (by decide) ?_
      exact lw_c13 l C0 hKx hKm H locs hP hD hS ls hl
    · obtain rfl : va = 14 := eva
      refine lv_tableIn (off := 689) (tgt := 722) hx hb dL_law_33 (by decide) (by decide) (by decide +kernel) (by decide) ?_
      exact lw_c14 l C0 hKx hKm H locs hP hD hS ls hl
    · obtain rfl : va = 15 := eva
      refine lv_tableIn (off := 722) (tgt := 755) hx hb dL_law_33 (by decide) (by decide) (by decide +kernel) (by decide) ?_
      exact lw_c15 l C0 hKx hKm H locs hP hD hS ls hl
    · obtain rfl : va = 16 := eva
      refine lv_tableIn (off := 745) (tgt := 778) hx hb dL_law_33 (by decide) (by decide) (by decide +kernel) (by decide) ?_
      exact lw_c16 l C0 hKx hKm H locs hP hD hS ls hl
    · obtain rfl : va = 17 := eva
      refine lv_tableIn (off := 778) (tgt := 811) hx hb dL_law_33 (by decide) (by decide) (by decide +kernel) (by decide) ?_
      exact lw_c17 l C0 hKx hKm H locs hP hD hS ls hl
    · obtain rfl : va = 18 := eva
      refine lv_tableIn (off := 811) (tgt := 844) hx hb dL_law_33 (by decide) (by decide) (by decide +kernel) (by decide) ?_
      exact lw_c18 l C0 hKx hKm H locs hP hD hS ls hl
    · obtain rfl : va = 19 := eva
      refine lv_tableIn (off := 834) (tgt := 867) hx hb dL_law_33 (by decide) (by decide) (by decide +kernel) (by decide) ?_
      exact lw_c19 l C0 hKx hKm H locs hP hD hS ls hl
    · obtain rfl : va = 20 := eva
      refine lv_tableIn (off := 867) (tgt := 900) hx hb dL_law_33 (by decide) (by decide) (by decide +kernel) (by decide) ?_
      exact lw_c20 l C0 hKx hKm H locs hP hD hS ls hl
    · obtain rfl : va = 21 := eva
      refine lv_tableIn (off := 910) (tgt := 943) hx hb dL_law_33 (by decide) (by decide) (by decide +kernel) (by decide) ?_
      exact lw_c21 l C0 hKx hKm H locs hP hD hS ls hl
    · obtain rfl : va = 22 := eva
      refine lv_tableIn (off := 964) (tgt := 997) hx hb dL_law_33 (by decide) (by decide) (by decide +kernel) (by decide) ?_
      exact lw_c22 l C0 hKx hKm H locs hP hD hS ls hl
    · obtain rfl : va = 23 := eva
      refine lv_tableIn (off := 997) (tgt := 1030) hx hb dL_law_33 (by decide) (by decide) (by decide +kernel) (by decide) ?_
      exact lw_c23 l C0 hKx hKm H locs hP hD hS ls hl
    · refine lv_tableOut (tgt := 1053) hx hb dL_law_33 (Or.inr (by rw [eva, nI_toInt (by omega)]; omega)) (by decide) ?_
      exact lw_tail l C0 H locs hS ls hl 79 13150 (by decide) (by decide)
