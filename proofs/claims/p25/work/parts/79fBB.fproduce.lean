set_option maxHeartbeats 4000000 in
set_option maxRecDepth 100000 in
/-- produce, exactly -/
theorem f_X7_produce (l : Launch) (dC : Nat → ClassId) (dI : Nat → Nat → Nat) (cy : Nat → ClassId) (w : Nat → Nat) (L : List Nat) (K N : Nat → Nat) (T : Nat → Nat → Nat) (Q : Nat → Nat → Option Nat) (I J : Nat → Nat → Int32) (sz : Nat) (E : Int) (xp : Int32) (xh : Int32) (xs : Int32) (xk : Int32) (xv : Int32) (al : Int32) (σ : SG) (hM : MS w L K N T Q) (hI : MI w E I J) (hE : E ≤ 1000) (hMR : MR w I J σ) : Met l yX7_produce wsX7_produce ({ frames := 4, cells := 0, slots := 0, locals := 99 }) (va_Pc [.ref (w 0), .int xp, .int xh, .int xs, .int xk, .int xv, .int al] (mW dC dI cy L (wF cy K N T I Q J) sz)) (va_Qi (fun (r : Int32) (d : (Nat → Nat → Int32) × (Nat → Nat → Int32)) => MI w (E + 5) d.1 d.2 ∧ MR w d.1 d.2 (qPr σ xp xh xs xk xv al).1 ∧ r = (qPr σ xp xh xs xk xv al).2) (fun (d : (Nat → Nat → Int32) × (Nat → Nat → Int32)) t => va_P (dC, dI) vwCl (va_pl L (wF cy K N T d.1 Q d.2)) t.heap ∧ va_K (dC, dI) vwCl (mTy cy) t ∧ va_D (va_A (va_pl L (wF cy K N T I Q J)) sz) (va_pl L (wF cy K N T d.1 Q d.2))) (va_A (va_pl L (wF cy K N T I Q J)) sz)) 0 0 (va_A (va_pl L (wF cy K N T I Q J)) sz) := by
  refine Met.ofW (cc := cX7_produce) (maxL := 12) (ret := (some .int)) (by decide) rfl ?_
  intro p e s m args below meth c s₁ B hml hv
  obtain ⟨rfl, hsz, ⟨hP, hK⟩, hD0⟩ := hv
  have hx := B.exec
  have hb := B.bytes
  have hr := B.returns
  have hts := atoms_spec (ws := wsX7_produce) B.pre
  have hown : s.vm.findClass RX7 = some m.cls := findClass_of_methodNamed B.named
  have hlocks := B.notSynchronized
  have hi7 : ∀ w ∈ wsX70, w ∈ wsX7_produce := by decide +kernel
  have hi6 : ∀ w ∈ wsX60, w ∈ wsX7_produce := by decide +kernel
  have hl := lv_entry ([.ref (w 0), .int xp, .int xh, .int xs, .int xk, .int xv, .int al]) (n := 12) (Nat.le_of_ble_eq_true rfl)
  rw [lg_entry_eq]
  generalize (lg_sl ([.ref (w 0), .int xp, .int xh, .int xs, .int xk, .int xv, .int al]) ++ List.replicate (12 - (lg_sl ([.ref (w 0), .int xp, .int xh, .int xs, .int xk, .int xv, .int al])).length) Slot.unset).toArray = ls at hl ⊢
  have hl : lv_has ls 12 [(0, .ref (w 0)), (1, .int xp), (2, .int xh), (3, .int xs), (4, .int xk), (5, .int xv), (6, .int al)] := hl
  subst hsz
  have hD := hD0.self (sz := s.heap.size)
  generalize hAe : va_A (va_pl L (wF cy K N T I Q J)) s.heap.size = A at hD ⊢
  have hA : ∀ q : Nat, s.heap.size ≤ q → A q := fun q h => by rw [← hAe]; exact Or.inr h
  have hS : va_S A s.heap s.heap [] := va_S.rf
  have hR : RM w [] I J I J := RM.rf
  obtain ⟨hML, hMD, hMU⟩ := hI
  refine lv_aload_n hx hb dX7_produce_0 rfl (lv_at hl 0 rfl) ?_
  refine lv_iload_n hx hb dX7_produce_1 rfl (lv_at hl 1 rfl) ?_
  obtain ⟨j380002, hj380002⟩ := wG_7 (cy := cy) (N := N) (T := T) (I := I) (Q := Q) (J := J) (hM.at 0 (by decide)) (hM.k 0 (by decide) rfl)
  refine vp_callSi (W.runV (As := [.int xp]) (rest := []) ⟨hx, hb, hml, hown, hts⟩ (c_X7_isThere l dC dI cy w L K N T Q I J xp hM) (cwV 1 hts gX7_produce_X7_isThere rfl rfl rfl (by decide +kernel) ⟨Nat.le_of_ble_eq_true rfl, Nat.le_of_ble_eq_true rfl⟩) ⟨mb_blind, va_recv hK hP (ci := 7) (q0 := j380002) rfl hj380002, fun U hU hW => ⟨rfl, mb_pre hP hK hU hW⟩⟩ rfl rfl hl.1 rfl (lv_room (Nat.le_of_ble_eq_true rfl)) dX7_produce_2 ⟨Nat.le_of_ble_eq_true rfl, Nat.le_of_ble_eq_true rfl⟩) (fun r380001 hr380001 => ?_)
  have hir380001 : r380001 = sp_it (σ.1 2) xp := hr380001.trans (hMR.it _)
  refine lv_if_eq (tgt := 20) hx hb dX7_produce_5 (by decide) (fun c380003 => ?_) (fun c380003 => ?_)
  · have kc380003 : r380001.toInt = 0 := by have h9 := c380003; rw [xk_eq, xk_0] at h9; exact h9
    refine lv_iconst (v := (-1)) hx hb dX7_produce_20 (by decide) ?_
    exact W.iret (v := (-1)) hx hb hr (fun t ht hW => ⟨⟨(-1), (I, J), rfl, ⟨⟨hML.mono (by omega), hMD, hMU⟩, by have e9 : qPr σ xp xh xs xk xv al = (σ, (-1)) := (by rw [qPr, if_pos (by have k9 := c380003; simp only [hir380001] at k9; exact k9)]); show MR w I J _; rw [e9]; exact hMR, by have e9 : qPr σ xp xh xs xk xv al = (σ, (-1)) := (by rw [qPr, if_pos (by have k9 := c380003; simp only [hir380001] at k9; exact k9)]); show _ = _; rw [e9]⟩, by rw [ht]; exact hP, va_K.moved hW.alike hK, hD⟩, hS.F ht⟩) hS.2.2 dX7_produce_21
  · have hth380004 := sp_it1 (by rw [← hr380001]; exact c380003)
    have kc380003 : ¬ (r380001.toInt = 0) := by have h9 := c380003; rw [xk_eq, xk_0] at h9; exact h9
    refine lv_iload_n hx hb dX7_produce_8 rfl (lv_at hl 2 rfl) ?_
    refine lv_iconst (v := (-1)) hx hb dX7_produce_9 (by decide) ?_
    refine lv_icmp_eq (tgt := 22) hx hb dX7_produce_10 (by decide) (fun c380005 => ?_) (fun c380005 => ?_)
    · have kc380005 : xh.toInt = (-1) := by have h9 := c380005; rw [xk_eq, (show ((-1) : Int32).toInt = -1 by decide)] at h9; exact h9
      refine lv_aload_n hx hb dX7_produce_22 rfl (lv_at hl 0 rfl) ?_
      refine lv_iload_n hx hb dX7_produce_23 rfl (lv_at hl 1 rfl) ?_
      obtain ⟨j380007, hj380007⟩ := wG_7 (cy := cy) (N := N) (T := T) (I := I) (Q := Q) (J := J) (hM.at 0 (by decide)) (hM.k 0 (by decide) rfl)
      refine va_csq (W.runV (As := [.int xp]) (rest := []) ⟨hx, hb, hml, hown, hts⟩ (c_X7_own l dC dI cy w L K N T Q I J xp hM hth380004.1) (cwV 1 hts gX7_produce_X7_own rfl rfl rfl (by decide +kernel) ⟨Nat.le_of_ble_eq_true rfl, Nat.le_of_ble_eq_true rfl⟩) ⟨mb_blind, va_recv hK hP (ci := 7) (q0 := j380007) rfl hj380007, fun U hU hW => ⟨rfl, mb_pre hP hK hU hW⟩⟩ rfl rfl hl.1 rfl (lv_room (Nat.le_of_ble_eq_true rfl)) dX7_produce_24 ⟨Nat.le_of_ble_eq_true rfl, Nat.le_of_ble_eq_true rfl⟩) (fun r380006 hr380006 => ?_)
      subst hr380006
      rcases sp_ow_cs w (I (w 0) 16) (J (w 4) xp.toNatClampNeg) xp.toNatClampNeg with hon380008 | ⟨n380008, hnn380008, eln380008, hubn380008, hon380008⟩
      · refine W.eq (g2 := F0 m 27 ls [.null]) (by rw [hon380008]; rfl) ?_
        have oqn380008 := oOw_no hMR (vp_lt (n := 4) hth380004.1) hon380008
        refine lv_astoreN (lv' := [(7, .null), (0, .ref (w 0)), (1, .int xp), (2, .int xh), (3, .int xs), (4, .int xk), (5, .int xv), (6, .int al)]) hx hb dX7_produce_27 hl (by decide) rfl (fun ls hl => ?_)
        refine lv_aloadN hx hb dX7_produce_29 (lv_at hl 0 rfl) ?_
        refine lv_ifnonnullN hx hb dX7_produce_31 ?_
        refine lv_bipush (v := (-2)) hx hb dX7_produce_34 (by decide) ?_
        exact W.iret (v := (-2)) hx hb hr (fun t ht hW => ⟨⟨(-2), (I, J), rfl, ⟨⟨hML.mono (by omega), hMD, hMU⟩, by have e9 : qPr σ xp xh xs xk xv al = (σ, (-2)) := (by rw [qPr, if_neg (by have k9 := c380003; simp only [hir380001] at k9; exact k9), if_neg (fun q => q.1 c380005), oqn380008]); show MR w I J _; rw [e9]; exact hMR, by have e9 : qPr σ xp xh xs xk xv al = (σ, (-2)) := (by rw [qPr, if_neg (by have k9 := c380003; simp only [hir380001] at k9; exact k9), if_neg (fun q => q.1 c380005), oqn380008]); show _ = _; rw [e9]⟩, by rw [ht]; exact hP, va_K.moved hW.alike hK, hD⟩, hS.F ht⟩) hS.2.2 dX7_produce_36
      · have hjn380008 : (5 * xp.toNatClampNeg + n380008) < 20 := by have h1 := vp_lt (n := 4) hth380004.1; omega
        refine W.eq (g2 := F0 m 27 ls [.ref (w (21 + (5 * xp.toNatClampNeg + n380008)))]) (by rw [hon380008]; rfl) ?_
        have oqn380008 := oOw_of hM hMR (vp_lt (n := 4) hth380004.1) hnn380008 eln380008 hubn380008
        refine lv_astore (lv' := [(7, .ref (w (21 + (5 * xp.toNatClampNeg + n380008)))), (0, .ref (w 0)), (1, .int xp), (2, .int xh), (3, .int xs), (4, .int xk), (5, .int xv), (6, .int al)]) hx hb dX7_produce_27 hl (by decide) rfl (fun ls hl => ?_)
        refine lv_aload hx hb dX7_produce_29 (lv_at hl 0 rfl) ?_
        refine lv_ifnonnull (tgt := 37) hx hb dX7_produce_31 (by decide) ?_
        obtain ⟨ha380009, hb380009, hc380009, hd380009, he380009, hf380009⟩ := hML (5 * xp.toNatClampNeg + n380008) hjn380008
        refine lv_iload_n hx hb dX7_produce_37 rfl (lv_at hl 3 rfl) ?_
        refine lv_if_ge (tgt := 45) hx hb dX7_produce_38 (by decide) (fun c380010 => ?_) (fun c380010 => ?_)
        · exact absurd c380010 (by rw [c380005]; decide)
        refine lv_iconst (v := (-1)) hx hb dX7_produce_41 (by decide) ?_
        refine lv_goto (tgt := 49) hx hb dX7_produce_42 (by decide) ?_
        refine lv_istore (lv' := [(8, .int (-1)), (7, .ref (w (21 + (5 * xp.toNatClampNeg + n380008)))), (0, .ref (w 0)), (1, .int xp), (2, .int xh), (3, .int xs), (4, .int xk), (5, .int xv), (6, .int al)]) hx hb dX7_produce_49 hl (by decide) rfl (fun ls hl => ?_)
        refine lv_iload_n hx hb dX7_produce_51 rfl (lv_at hl 4 rfl) ?_
        refine lv_if_ge (tgt := 59) hx hb dX7_produce_52 (by decide) (fun c380011 => ?_) (fun c380011 => ?_)
        · exact absurd c380011 (by rw [c380005]; decide)
        refine lv_iconst (v := (-1)) hx hb dX7_produce_55 (by decide) ?_
        refine lv_goto (tgt := 63) hx hb dX7_produce_56 (by decide) ?_
        refine lv_istore (lv' := [(9, .int (-1)), (8, .int (-1)), (7, .ref (w (21 + (5 * xp.toNatClampNeg + n380008)))), (0, .ref (w 0)), (1, .int xp), (2, .int xh), (3, .int xs), (4, .int xk), (5, .int xv), (6, .int al)]) hx hb dX7_produce_63 hl (by decide) rfl (fun ls hl => ?_)
        refine lv_iload hx hb dX7_produce_65 (lv_at hl 1 rfl) ?_
        refine lv_if_lt (tgt := 96) hx hb dX7_produce_67 (by decide) (fun c380012 => ?_) (fun c380012 => ?_)
        rotate_left
        · exact absurd c380012 (by decide)
        refine lv_iload hx hb dX7_produce_96 (lv_at hl 9 rfl) ?_
        refine lv_if_eq (tgt := 122) hx hb dX7_produce_98 (by decide) (fun c380013 => ?_) (fun c380013 => ?_)
        · have kc380013 : al.toInt = 0 := by have h9 := c380013; rw [xk_eq, xk_0] at h9; exact h9
          refine lv_iload hx hb dX7_produce_122 (lv_at hl 1 rfl) ?_
          refine lv_if_lt (tgt := 241) hx hb dX7_produce_124 (by decide) (fun c380014 => ?_) (fun c380014 => ?_)
          rotate_left
          · exact absurd c380014 (by decide)
          refine lv_aload hx hb dX7_produce_241 (lv_at hl 2 rfl) ?_
          obtain ⟨j380016, hj380016⟩ := wG_6 (cy := cy) (N := N) (T := T) (I := I) (Q := Q) (J := J) (hM.lg hjn380008).1 (hM.lg hjn380008).2
          refine vp_callSi (W.runV (As := []) (rest := []) ⟨hx, hb, hml, hown, hts⟩ (c_X6_many l dC dI cy w L K N T Q I J (5 * xp.toNatClampNeg + n380008) hM hjn380008) (cwV 0 hts gX7_produce_X6_many rfl rfl rfl (by decide +kernel) ⟨Nat.le_of_ble_eq_true rfl, Nat.le_of_ble_eq_true rfl⟩) ⟨mb_blind, va_recv hK hP (ci := 6) (q0 := j380016) rfl hj380016, fun U hU hW => ⟨rfl, mb_pre hP hK hU hW⟩⟩ rfl rfl hl.1 rfl (lv_room (Nat.le_of_ble_eq_true rfl)) dX7_produce_243 ⟨Nat.le_of_ble_eq_true rfl, Nat.le_of_ble_eq_true rfl⟩) (fun r380015 hr380015 => ?_)
          obtain ⟨ha380017, hb380017, hc380017, hd380017, he380017, hf380017⟩ := hML (5 * xp.toNatClampNeg + n380008) hjn380008
          have tr380015 : r380015.toInt = (I (w (21 + (5 * xp.toNatClampNeg + n380008))) 2).toInt - (I (w (21 + (5 * xp.toNatClampNeg + n380008))) 1).toInt := by rw [hr380015]; exact xsub (by omega) (by omega)
          have hir380015 : r380015 = σ.2.1 (5 * xp.toNatClampNeg + n380008) 2 - σ.2.1 (5 * xp.toNatClampNeg + n380008) 1 := by rw [hr380015, hMR.g hjn380008 (by decide) (by decide), hMR.g hjn380008 (by decide) (by decide)]
          refine lv_bipush (v := 60) hx hb dX7_produce_246 (by decide) ?_
          refine lv_icmp_ne (tgt := 254) hx hb dX7_produce_248 (by decide) (fun c380018 => ?_) (fun c380018 => ?_)
          · have kc380018 : ¬ (r380015.toInt = 60) := by have h9 := c380018; rw [xk_eq, (show (60 : Int32).toInt = 60 by decide)] at h9; exact h9
            refine lv_iload hx hb dX7_produce_254 (lv_at hl 1 rfl) ?_
            refine lv_if_lt (tgt := 274) hx hb dX7_produce_256 (by decide) (fun c380019 => ?_) (fun c380019 => ?_)
            rotate_left
            · exact absurd c380019 (by decide)
            refine lv_iconst (v := 0) hx hb dX7_produce_274 (by decide) ?_
            refine lv_istore (lv' := [(10, .int 0), (9, .int (-1)), (8, .int (-1)), (7, .ref (w (21 + (5 * xp.toNatClampNeg + n380008)))), (0, .ref (w 0)), (1, .int xp), (2, .int xh), (3, .int xs), (4, .int xk), (5, .int xv), (6, .int al)]) hx hb dX7_produce_275 hl (by decide) rfl (fun ls hl => ?_)
            refine lv_aload hx hb dX7_produce_277 (lv_at hl 3 rfl) ?_
            refine lv_aload_n hx hb dX7_produce_279 rfl (lv_at hl 4 rfl) ?_
            obtain ⟨j380020, hj380020⟩ := wG_7 (cy := cy) (N := N) (T := T) (I := I) (Q := Q) (J := J) (hM.at 0 (by decide)) (hM.k 0 (by decide) rfl)
            refine va_get (D := (dC, dI)) (ci := 7) (v := .ref (T (w 0) 4)) (C := RX7) (T := TX7) (N := 18) hx hb hts hi7 hown hK hP j380020 hj380020 rfl 4 (by decide) (hts (.fieldLink RX7 25 "TallyLogsModel" "epoch" "[I") (by decide +kernel)) (fun _ h9 => h9) rfl dX7_produce_280 ?_
            refine W.eq (g2 := F0 m 283 ls [.ref (w 5), .ref (w (21 + (5 * xp.toNatClampNeg + n380008)))]) (by rw [hM.t 4 (by decide)]) ?_
            refine lv_iload_n hx hb dX7_produce_283 rfl (lv_at hl 5 rfl) ?_
            obtain ⟨j380021, hj380021⟩ := wG_20 (cy := cy) (N := N) (T := T) (I := I) (Q := Q) (J := J) (hM.at 5 (by decide)) (hM.k 5 (by decide) rfl)
            refine va_iald hx hb hK hP j380021 1 hj380021 rfl (hM.inN (n := 4) 5 (by decide) rfl rfl hth380004.1) dX7_produce_284 ?_
            refine lv_topi (fun x380022 ex380022 => ?_)
            have sx380022 : x380022 = σ.1 5 xp.toNatClampNeg := ex380022.trans (hMR.a (k := 5) (by decide) (by decide) (show _ < 4 from vp_lt (n := 4) hth380004.1))
            refine lv_iconst (v := 0) hx hb dX7_produce_285 (by decide) ?_
            refine lv_iload hx hb dX7_produce_286 (lv_at hl 2 rfl) ?_
            refine lv_iload hx hb dX7_produce_288 (lv_at hl 1 rfl) ?_
            refine lv_iload hx hb dX7_produce_290 (lv_at hl 2 rfl) ?_
            refine lv_if_ge (tgt := 299) hx hb dX7_produce_292 (by decide) (fun c380023 => ?_) (fun c380023 => ?_)
            · exact absurd c380023 (by decide)
            refine lv_iconst (v := (-1)) hx hb dX7_produce_295 (by decide) ?_
            refine lv_goto (tgt := 300) hx hb dX7_produce_296 (by decide) ?_
            refine lv_iload hx hb dX7_produce_300 (lv_at hl 8 rfl) ?_
            refine lv_iload hx hb dX7_produce_302 (lv_at hl 9 rfl) ?_
            refine lv_iload hx hb dX7_produce_304 (lv_at hl 0 rfl) ?_
            refine lv_if_eq (tgt := 313) hx hb dX7_produce_306 (by decide) (fun c380024 => ?_) (fun c380024 => ?_)
            rotate_left
            · exact absurd c380024 (by decide)
            refine lv_iconst (v := 0) hx hb dX7_produce_313 (by decide) ?_
            obtain ⟨j380025, hj380025⟩ := wG_6 (cy := cy) (N := N) (T := T) (I := I) (Q := Q) (J := J) (hM.lg hjn380008).1 (hM.lg hjn380008).2
            have hFc := pfree hD hS hA
            refine va_callv (va_runV (As := [.int x380022, .int 0, .int (-1), .int (-1), .int (-1), .int xk, .int xv, .int 0]) (rest := []) ⟨hx, hb, hml, hown, hts⟩ (f_X6_add l dC dI cy w L K N T Q I J s.heap.size (5 * xp.toNatClampNeg + n380008) x380022 0 (-1) (-1) (-1) xk xv 0 σ hM hjn380008 (by omega) (by omega) (by omega) (by omega) hMR) (cwV 8 hts gX7_produce_X6_add rfl rfl rfl (by decide +kernel) ⟨Nat.le_of_ble_eq_true rfl, Nat.le_of_ble_eq_true rfl⟩) ⟨mw_blind, va_recv hK hP (ci := 6) (q0 := j380025) rfl hj380025, fun U hU hW => ⟨rfl, mw_pre hP hK hD hU hW⟩⟩ rfl rfl hl.1 rfl (lv_room (Nat.le_of_ble_eq_true rfl)) dX7_produce_314 ⟨Nat.le_of_ble_eq_true rfl, Nat.le_of_ble_eq_true rfl⟩) hS (fun q _ h => hFc q h) hFc (fun d9 t H1 locs ht hvm hw hB hz1 hk1 hS => ?_)
            obtain ⟨I380026, J380026⟩ := d9
            obtain ⟨hP, hK1, hD1⟩ := hB
            rw [ht] at hP
            have hD := hD1.weaken (fun _ _ _ h => hFc _ h)
            generalize H1 = H at hP hS ⊢
            have hP : va_P (dC, dI) vwCl (va_pl L (wF cy K N T I380026 Q J380026)) H := hP
            have hD : va_D A (va_pl L (wF cy K N T I380026 Q J380026)) := hD
            have hMRn := hw.1
            have hw := hw.2
            have hw380028 : LW w I J I380026 J380026 (5 * xp.toNatClampNeg + n380008) _ _ := hw
            have hR : RM w [] I J I380026 J380026 := hR.lw hM hjn380008 hw380028
            have hMD : MD w J380026 := hMD.lw hM hjn380008 hw380028
            have hMU : MU w I380026 := hMU.lw hM hjn380008 hw380028
            have q1hw380028 : (I380026 (w (21 + (5 * xp.toNatClampNeg + n380008))) 1).toInt = _ := hw380028.2.2.1
            have q2hw380028 : (I380026 (w (21 + (5 * xp.toNatClampNeg + n380008))) 2).toInt = _ := hw380028.2.2.2
            have q3hw380028 : (I380026 (w (21 + (5 * xp.toNatClampNeg + n380008))) 3).toInt = _ := congrArg Int32.toInt hw380028.f3
            have q4hw380028 : (I380026 (w (21 + (5 * xp.toNatClampNeg + n380008))) 4).toInt = _ := congrArg Int32.toInt hw380028.f4
            have hML : ML w (E + 1) I380026 := hML.lw hM hjn380008 hw380028 (by omega) ⟨by omega, by omega, by omega, by omega, by omega, by omega⟩
            obtain ⟨sg380029, esg380029⟩ : ∃ z, z = oAd σ (5 * xp.toNatClampNeg + n380008) (r8 x380022 0 (-1) (-1) (-1) xk xv 0) := ⟨_, rfl⟩
            have hMR : MR w I380026 J380026 sg380029 := by rw [esg380029]; exact hMRn
            refine lv_iload hx hb dX7_produce_317 (lv_at hl 0 rfl) ?_
            refine lv_if_eq (tgt := 335) hx hb dX7_produce_319 (by decide) (fun c380030 => ?_) (fun c380030 => ?_)
            rotate_left
            · exact absurd c380030 (by decide)
            refine lv_aload_n hx hb dX7_produce_335 rfl (lv_at hl 4 rfl) ?_
            refine lv_iload_n hx hb dX7_produce_336 rfl (lv_at hl 5 rfl) ?_
            obtain ⟨j380031, hj380031⟩ := wG_7 (cy := cy) (N := N) (T := T) (I := I380026) (Q := Q) (J := J380026) (hM.at 0 (by decide)) (hM.k 0 (by decide) rfl)
            have hFc := pfree hD hS hA
            refine va_callv (va_runV (As := [.int xp]) (rest := []) ⟨hx, hb, hml, hown, hts⟩ (f_X7_rise l dC dI cy w L K N T Q I380026 J380026 H.size xp sg380029 hM hth380004.1 (hMD _ (vp_lt (n := 4) hth380004.1)) hMR) (cwV 1 hts gX7_produce_X7_rise rfl rfl rfl (by decide +kernel) ⟨Nat.le_of_ble_eq_true rfl, Nat.le_of_ble_eq_true rfl⟩) ⟨mw_blind, va_recv hK hP (ci := 7) (q0 := j380031) rfl hj380031, fun U hU hW => ⟨rfl, mw_pre hP hK hD hU hW⟩⟩ rfl rfl hl.1 rfl (lv_room (Nat.le_of_ble_eq_true rfl)) dX7_produce_337 ⟨Nat.le_of_ble_eq_true rfl, Nat.le_of_ble_eq_true rfl⟩) hS (fun q _ h => hFc q h) hFc (fun d9 t H1 locs ht hvm hw hB hz1 hk1 hS => ?_)
            obtain ⟨I380032, J380032⟩ := d9
            obtain ⟨hP, hK1, hD1⟩ := hB
            rw [ht] at hP
            have hD := hD1.weaken (fun _ _ _ h => hFc _ h)
            generalize H1 = H at hP hS ⊢
            have hP : va_P (dC, dI) vwCl (va_pl L (wF cy K N T I380032 Q J380032)) H := hP
            have hD : va_D A (va_pl L (wF cy K N T I380032 Q J380032)) := hD
            have hMRn := hw.1
            have hw := hw.2
            have hw380034 : RZ w I380026 J380026 I380032 J380032 xp.toNatClampNeg := hw
            have hR : RM w [] I J I380032 J380032 := hR.rz hM (vp_lt (n := 4) hth380004.1) hw380034
            have hMD : MD w J380032 := hMD.rz hw380034
            have hMU : MU w I380032 := hMU.rz hM (vp_lt (n := 4) hth380004.1) hw380034
            have hML : ML w (E + 1) I380032 := hML.rz hM (vp_lt (n := 4) hth380004.1) hw380034
            obtain ⟨sg380035, esg380035⟩ : ∃ z, z = oRi sg380029 xp.toNatClampNeg := ⟨_, rfl⟩
            have hMR : MR w I380032 J380032 sg380035 := by rw [esg380035]; exact hMRn
            refine lv_aload hx hb dX7_produce_340 (lv_at hl 3 rfl) ?_
            obtain ⟨j380036, hj380036⟩ := wG_6 (cy := cy) (N := N) (T := T) (I := I380032) (Q := Q) (J := J380032) (hM.lg hjn380008).1 (hM.lg hjn380008).2
            refine va_get (D := (dC, dI)) (ci := 6) (v := .int (I380032 (w (21 + (5 * xp.toNatClampNeg + n380008))) 2)) (C := RX6) (T := TX6) (N := 7) hx hb hts hi6 hown hK hP j380036 hj380036 rfl 2 (by decide) (hts (.fieldLink RX7 89 "TallyLogsModel$Log" "end" "I") (by decide +kernel)) (fun _ h9 => h9) rfl dX7_produce_342 ?_
            refine lv_topi (fun x380037 ex380037 => ?_)
            have sx380037 : x380037 = sg380035.2.1 (5 * xp.toNatClampNeg + n380008) 2 := ex380037.trans (hMR.g hjn380008 (by decide) (by decide))
            have tx380037 : x380037.toInt = (I380032 (w (21 + (5 * xp.toNatClampNeg + n380008))) 2).toInt := congrArg Int32.toInt ex380037
            refine lv_iconst (v := 1) hx hb dX7_produce_345 (by decide) ?_
            refine lv_isub hx hb dX7_produce_346 ?_
            refine lv_topi (fun v380038 ev380038 => ?_)
            exact W.iret (v := v380038) hx hb hr (fun t ht hW => ⟨⟨v380038, (I380032, J380032), rfl, ⟨⟨hML.mono (by omega), hMD, hMU⟩, by have e9 : qPr σ xp xh xs xk xv al = (sg380035, v380038) := (by rw [qPr, if_neg (by have k9 := c380003; simp only [hir380001] at k9; exact k9), if_neg (fun q => q.1 c380005), oqn380008]; show (if _ then _ else _) = _; rw [if_pos c380005]; rw [if_neg (fun q => q.1 c380013)]; rw [if_neg (by have k9 := c380018; simp only [hir380015] at k9; exact k9)]; have ha9 : v380038 = σ.2.1 (5 * xp.toNatClampNeg + n380008) 2 := (by rw [ev380038, sx380037, esg380035, oRi_g (by decide)]; simp only [esg380029, sx380022]; rw [oAd_e]; exact Int32.add_sub_cancel _ _); rw [ha9]; refine Prod.ext ?_ rfl; show oPr _ _ _ _ _ _ _ _ = _; have hxp9 : nI xp.toNatClampNeg = xp := (xnI hth380004.1 (by decide)).symm; rw [oPr, if_neg (fun q => q.1 (by decide)), if_pos (by decide)]; rw [esg380035]; simp only [esg380029, sx380022, hxp9] <;> rfl); show MR w I380032 J380032 _; rw [e9]; exact hMR, by have e9 : qPr σ xp xh xs xk xv al = (sg380035, v380038) := (by rw [qPr, if_neg (by have k9 := c380003; simp only [hir380001] at k9; exact k9), if_neg (fun q => q.1 c380005), oqn380008]; show (if _ then _ else _) = _; rw [if_pos c380005]; rw [if_neg (fun q => q.1 c380013)]; rw [if_neg (by have k9 := c380018; simp only [hir380015] at k9; exact k9)]; have ha9 : v380038 = σ.2.1 (5 * xp.toNatClampNeg + n380008) 2 := (by rw [ev380038, sx380037, esg380035, oRi_g (by decide)]; simp only [esg380029, sx380022]; rw [oAd_e]; exact Int32.add_sub_cancel _ _); rw [ha9]; refine Prod.ext ?_ rfl; show oPr _ _ _ _ _ _ _ _ = _; have hxp9 : nI xp.toNatClampNeg = xp := (xnI hth380004.1 (by decide)).symm; rw [oPr, if_neg (fun q => q.1 (by decide)), if_pos (by decide)]; rw [esg380035]; simp only [esg380029, sx380022, hxp9] <;> rfl); show _ = _; rw [e9]⟩, by rw [ht]; exact hP, va_K.moved hW.alike hK, hD⟩, hS.F ht⟩) hS.2.2 dX7_produce_347
          · have kc380018 : r380015.toInt = 60 := by have h9 := c380018; rw [xk_eq, (show (60 : Int32).toInt = 60 by decide)] at h9; exact h9
            refine lv_bipush (v := (-3)) hx hb dX7_produce_251 (by decide) ?_
            exact W.iret (v := (-3)) hx hb hr (fun t ht hW => ⟨⟨(-3), (I, J), rfl, ⟨⟨hML.mono (by omega), hMD, hMU⟩, by have e9 : qPr σ xp xh xs xk xv al = (σ, (-3)) := (by rw [qPr, if_neg (by have k9 := c380003; simp only [hir380001] at k9; exact k9), if_neg (fun q => q.1 c380005), oqn380008]; show (if _ then _ else _) = _; rw [if_pos c380005]; rw [if_neg (fun q => q.1 c380013)]; rw [if_pos (by have k9 := c380018; simp only [hir380015] at k9; exact k9)]); show MR w I J _; rw [e9]; exact hMR, by have e9 : qPr σ xp xh xs xk xv al = (σ, (-3)) := (by rw [qPr, if_neg (by have k9 := c380003; simp only [hir380001] at k9; exact k9), if_neg (fun q => q.1 c380005), oqn380008]; show (if _ then _ else _) = _; rw [if_pos c380005]; rw [if_neg (fun q => q.1 c380013)]; rw [if_pos (by have k9 := c380018; simp only [hir380015] at k9; exact k9)]); show _ = _; rw [e9]⟩, by rw [ht]; exact hP, va_K.moved hW.alike hK, hD⟩, hS.F ht⟩) hS.2.2 dX7_produce_253
        · have kc380013 : ¬ (al.toInt = 0) := by have h9 := c380013; rw [xk_eq, xk_0] at h9; exact h9
          refine lv_aload_n hx hb dX7_produce_101 rfl (lv_at hl 3 rfl) ?_
          obtain ⟨j380039, hj380039⟩ := wG_7 (cy := cy) (N := N) (T := T) (I := I) (Q := Q) (J := J) (hM.at 0 (by decide)) (hM.k 0 (by decide) rfl)
          refine va_get (D := (dC, dI)) (ci := 7) (v := .ref (T (w 0) 6)) (C := RX7) (T := TX7) (N := 18) hx hb hts hi7 hown hK hP j380039 hj380039 rfl 6 (by decide) (hts (.fieldLink RX7 31 "TallyLogsModel" "step" "[I") (by decide +kernel)) (fun _ h9 => h9) rfl dX7_produce_102 ?_
          refine W.eq (g2 := F0 m 105 ls [.ref (w 7)]) (by rw [hM.t 6 (by decide)]) ?_
          refine lv_iload_n hx hb dX7_produce_105 rfl (lv_at hl 4 rfl) ?_
          obtain ⟨j380040, hj380040⟩ := wG_20 (cy := cy) (N := N) (T := T) (I := I) (Q := Q) (J := J) (hM.at 7 (by decide)) (hM.k 7 (by decide) rfl)
          refine va_iald hx hb hK hP j380040 1 hj380040 rfl (hM.inN (n := 4) 7 (by decide) rfl rfl hth380004.1) dX7_produce_106 ?_
          refine lv_topi (fun x380041 ex380041 => ?_)
          have sx380041 : x380041 = σ.1 7 xp.toNatClampNeg := ex380041.trans (hMR.a (k := 7) (by decide) (by decide) (show _ < 4 from vp_lt (n := 4) hth380004.1))
          refine vp_callSi (W.runS (As := [.int x380041]) (rest := []) ⟨hx, hb, hml, hown, hts⟩ (c_J6_bitCount_0f7a4 l x380041) (va_cwS 1 hts gX7_produce_J6_bitCount_0f7a4 rfl rfl rfl (by decide +kernel) ⟨Nat.le_of_ble_eq_true rfl, Nat.le_of_ble_eq_true rfl⟩) preEq rfl rfl hl.1 rfl (lv_room (Nat.le_of_ble_eq_true rfl)) dX7_produce_107 ⟨Nat.le_of_ble_eq_true rfl, Nat.le_of_ble_eq_true rfl⟩) (fun r380042 hr380042 => ?_)
          subst hr380042
          refine lv_aload_n hx hb dX7_produce_110 rfl (lv_at hl 3 rfl) ?_
          obtain ⟨j380043, hj380043⟩ := wG_7 (cy := cy) (N := N) (T := T) (I := I) (Q := Q) (J := J) (hM.at 0 (by decide)) (hM.k 0 (by decide) rfl)
          refine va_get (D := (dC, dI)) (ci := 7) (v := .ref (T (w 0) 5)) (C := RX7) (T := TX7) (N := 18) hx hb hts hi7 hown hK hP j380043 hj380043 rfl 5 (by decide) (hts (.fieldLink RX7 28 "TallyLogsModel" "min" "[I") (by decide +kernel)) (fun _ h9 => h9) rfl dX7_produce_111 ?_
          refine W.eq (g2 := F0 m 114 ls [.ref (w 6), .int (sp_bc x380041)]) (by rw [hM.t 5 (by decide)]) ?_
          refine lv_iload_n hx hb dX7_produce_114 rfl (lv_at hl 4 rfl) ?_
          obtain ⟨j380044, hj380044⟩ := wG_20 (cy := cy) (N := N) (T := T) (I := I) (Q := Q) (J := J) (hM.at 6 (by decide)) (hM.k 6 (by decide) rfl)
          refine va_iald hx hb hK hP j380044 1 hj380044 rfl (hM.inN (n := 4) 6 (by decide) rfl rfl hth380004.1) dX7_produce_115 ?_
          refine lv_topi (fun x380045 ex380045 => ?_)
          have sx380045 : x380045 = σ.1 6 xp.toNatClampNeg := ex380045.trans (hMR.a (k := 6) (by decide) (by decide) (show _ < 4 from vp_lt (n := 4) hth380004.1))
          refine lv_icmp_ge (tgt := 122) hx hb dX7_produce_116 (by decide) (fun c380046 => ?_) (fun c380046 => ?_)
          · have kc380046 : x380045.toInt ≤ (sp_bc x380041).toInt := by have h9 := c380046; rw [xk_le] at h9; exact h9
            refine lv_iload hx hb dX7_produce_122 (lv_at hl 1 rfl) ?_
            refine lv_if_lt (tgt := 241) hx hb dX7_produce_124 (by decide) (fun c380047 => ?_) (fun c380047 => ?_)
            rotate_left
            · exact absurd c380047 (by decide)
            refine lv_aload hx hb dX7_produce_241 (lv_at hl 2 rfl) ?_
            obtain ⟨j380049, hj380049⟩ := wG_6 (cy := cy) (N := N) (T := T) (I := I) (Q := Q) (J := J) (hM.lg hjn380008).1 (hM.lg hjn380008).2
            refine vp_callSi (W.runV (As := []) (rest := []) ⟨hx, hb, hml, hown, hts⟩ (c_X6_many l dC dI cy w L K N T Q I J (5 * xp.toNatClampNeg + n380008) hM hjn380008) (cwV 0 hts gX7_produce_X6_many rfl rfl rfl (by decide +kernel) ⟨Nat.le_of_ble_eq_true rfl, Nat.le_of_ble_eq_true rfl⟩) ⟨mb_blind, va_recv hK hP (ci := 6) (q0 := j380049) rfl hj380049, fun U hU hW => ⟨rfl, mb_pre hP hK hU hW⟩⟩ rfl rfl hl.1 rfl (lv_room (Nat.le_of_ble_eq_true rfl)) dX7_produce_243 ⟨Nat.le_of_ble_eq_true rfl, Nat.le_of_ble_eq_true rfl⟩) (fun r380048 hr380048 => ?_)
            obtain ⟨ha380050, hb380050, hc380050, hd380050, he380050, hf380050⟩ := hML (5 * xp.toNatClampNeg + n380008) hjn380008
            have tr380048 : r380048.toInt = (I (w (21 + (5 * xp.toNatClampNeg + n380008))) 2).toInt - (I (w (21 + (5 * xp.toNatClampNeg + n380008))) 1).toInt := by rw [hr380048]; exact xsub (by omega) (by omega)
            have hir380048 : r380048 = σ.2.1 (5 * xp.toNatClampNeg + n380008) 2 - σ.2.1 (5 * xp.toNatClampNeg + n380008) 1 := by rw [hr380048, hMR.g hjn380008 (by decide) (by decide), hMR.g hjn380008 (by decide) (by decide)]
            refine lv_bipush (v := 60) hx hb dX7_produce_246 (by decide) ?_
            refine lv_icmp_ne (tgt := 254) hx hb dX7_produce_248 (by decide) (fun c380051 => ?_) (fun c380051 => ?_)
            · have kc380051 : ¬ (r380048.toInt = 60) := by have h9 := c380051; rw [xk_eq, (show (60 : Int32).toInt = 60 by decide)] at h9; exact h9
              refine lv_iload hx hb dX7_produce_254 (lv_at hl 1 rfl) ?_
              refine lv_if_lt (tgt := 274) hx hb dX7_produce_256 (by decide) (fun c380052 => ?_) (fun c380052 => ?_)
              rotate_left
              · exact absurd c380052 (by decide)
              refine lv_iconst (v := 0) hx hb dX7_produce_274 (by decide) ?_
              refine lv_istore (lv' := [(10, .int 0), (9, .int (-1)), (8, .int (-1)), (7, .ref (w (21 + (5 * xp.toNatClampNeg + n380008)))), (0, .ref (w 0)), (1, .int xp), (2, .int xh), (3, .int xs), (4, .int xk), (5, .int xv), (6, .int al)]) hx hb dX7_produce_275 hl (by decide) rfl (fun ls hl => ?_)
              refine lv_aload hx hb dX7_produce_277 (lv_at hl 3 rfl) ?_
              refine lv_aload_n hx hb dX7_produce_279 rfl (lv_at hl 4 rfl) ?_
              obtain ⟨j380053, hj380053⟩ := wG_7 (cy := cy) (N := N) (T := T) (I := I) (Q := Q) (J := J) (hM.at 0 (by decide)) (hM.k 0 (by decide) rfl)
              refine va_get (D := (dC, dI)) (ci := 7) (v := .ref (T (w 0) 4)) (C := RX7) (T := TX7) (N := 18) hx hb hts hi7 hown hK hP j380053 hj380053 rfl 4 (by decide) (hts (.fieldLink RX7 25 "TallyLogsModel" "epoch" "[I") (by decide +kernel)) (fun _ h9 => h9) rfl dX7_produce_280 ?_
              refine W.eq (g2 := F0 m 283 ls [.ref (w 5), .ref (w (21 + (5 * xp.toNatClampNeg + n380008)))]) (by rw [hM.t 4 (by decide)]) ?_
              refine lv_iload_n hx hb dX7_produce_283 rfl (lv_at hl 5 rfl) ?_
              obtain ⟨j380054, hj380054⟩ := wG_20 (cy := cy) (N := N) (T := T) (I := I) (Q := Q) (J := J) (hM.at 5 (by decide)) (hM.k 5 (by decide) rfl)
              refine va_iald hx hb hK hP j380054 1 hj380054 rfl (hM.inN (n := 4) 5 (by decide) rfl rfl hth380004.1) dX7_produce_284 ?_
              refine lv_topi (fun x380055 ex380055 => ?_)
              have sx380055 : x380055 = σ.1 5 xp.toNatClampNeg := ex380055.trans (hMR.a (k := 5) (by decide) (by decide) (show _ < 4 from vp_lt (n := 4) hth380004.1))
              refine lv_iconst (v := 0) hx hb dX7_produce_285 (by decide) ?_
              refine lv_iload hx hb dX7_produce_286 (lv_at hl 2 rfl) ?_
              refine lv_iload hx hb dX7_produce_288 (lv_at hl 1 rfl) ?_
              refine lv_iload hx hb dX7_produce_290 (lv_at hl 2 rfl) ?_
              refine lv_if_ge (tgt := 299) hx hb dX7_produce_292 (by decide) (fun c380056 => ?_) (fun c380056 => ?_)
              · exact absurd c380056 (by decide)
              refine lv_iconst (v := (-1)) hx hb dX7_produce_295 (by decide) ?_
              refine lv_goto (tgt := 300) hx hb dX7_produce_296 (by decide) ?_
              refine lv_iload hx hb dX7_produce_300 (lv_at hl 8 rfl) ?_
              refine lv_iload hx hb dX7_produce_302 (lv_at hl 9 rfl) ?_
              refine lv_iload hx hb dX7_produce_304 (lv_at hl 0 rfl) ?_
              refine lv_if_eq (tgt := 313) hx hb dX7_produce_306 (by decide) (fun c380057 => ?_) (fun c380057 => ?_)
              rotate_left
              · exact absurd c380057 (by decide)
              refine lv_iconst (v := 0) hx hb dX7_produce_313 (by decide) ?_
              obtain ⟨j380058, hj380058⟩ := wG_6 (cy := cy) (N := N) (T := T) (I := I) (Q := Q) (J := J) (hM.lg hjn380008).1 (hM.lg hjn380008).2
              have hFc := pfree hD hS hA
              refine va_callv (va_runV (As := [.int x380055, .int 0, .int (-1), .int (-1), .int (-1), .int xk, .int xv, .int 0]) (rest := []) ⟨hx, hb, hml, hown, hts⟩ (f_X6_add l dC dI cy w L K N T Q I J s.heap.size (5 * xp.toNatClampNeg + n380008) x380055 0 (-1) (-1) (-1) xk xv 0 σ hM hjn380008 (by omega) (by omega) (by omega) (by omega) hMR) (cwV 8 hts gX7_produce_X6_add rfl rfl rfl (by decide +kernel) ⟨Nat.le_of_ble_eq_true rfl, Nat.le_of_ble_eq_true rfl⟩) ⟨mw_blind, va_recv hK hP (ci := 6) (q0 := j380058) rfl hj380058, fun U hU hW => ⟨rfl, mw_pre hP hK hD hU hW⟩⟩ rfl rfl hl.1 rfl (lv_room (Nat.le_of_ble_eq_true rfl)) dX7_produce_314 ⟨Nat.le_of_ble_eq_true rfl, Nat.le_of_ble_eq_true rfl⟩) hS (fun q _ h => hFc q h) hFc (fun d9 t H1 locs ht hvm hw hB hz1 hk1 hS => ?_)
              obtain ⟨I380059, J380059⟩ := d9
              obtain ⟨hP, hK1, hD1⟩ := hB
              rw [ht] at hP
              have hD := hD1.weaken (fun _ _ _ h => hFc _ h)
              generalize H1 = H at hP hS ⊢
              have hP : va_P (dC, dI) vwCl (va_pl L (wF cy K N T I380059 Q J380059)) H := hP
              have hD : va_D A (va_pl L (wF cy K N T I380059 Q J380059)) := hD
              have hMRn := hw.1
              have hw := hw.2
              have hw380061 : LW w I J I380059 J380059 (5 * xp.toNatClampNeg + n380008) _ _ := hw
              have hR : RM w [] I J I380059 J380059 := hR.lw hM hjn380008 hw380061
              have hMD : MD w J380059 := hMD.lw hM hjn380008 hw380061
              have hMU : MU w I380059 := hMU.lw hM hjn380008 hw380061
              have q1hw380061 : (I380059 (w (21 + (5 * xp.toNatClampNeg + n380008))) 1).toInt = _ := hw380061.2.2.1
              have q2hw380061 : (I380059 (w (21 + (5 * xp.toNatClampNeg + n380008))) 2).toInt = _ := hw380061.2.2.2
              have q3hw380061 : (I380059 (w (21 + (5 * xp.toNatClampNeg + n380008))) 3).toInt = _ := congrArg Int32.toInt hw380061.f3
              have q4hw380061 : (I380059 (w (21 + (5 * xp.toNatClampNeg + n380008))) 4).toInt = _ := congrArg Int32.toInt hw380061.f4
              have hML : ML w (E + 1) I380059 := hML.lw hM hjn380008 hw380061 (by omega) ⟨by omega, by omega, by omega, by omega, by omega, by omega⟩
              obtain ⟨sg380062, esg380062⟩ : ∃ z, z = oAd σ (5 * xp.toNatClampNeg + n380008) (r8 x380055 0 (-1) (-1) (-1) xk xv 0) := ⟨_, rfl⟩
              have hMR : MR w I380059 J380059 sg380062 := by rw [esg380062]; exact hMRn
              refine lv_iload hx hb dX7_produce_317 (lv_at hl 0 rfl) ?_
              refine lv_if_eq (tgt := 335) hx hb dX7_produce_319 (by decide) (fun c380063 => ?_) (fun c380063 => ?_)
              rotate_left
              · exact absurd c380063 (by decide)
              refine lv_aload_n hx hb dX7_produce_335 rfl (lv_at hl 4 rfl) ?_
              refine lv_iload_n hx hb dX7_produce_336 rfl (lv_at hl 5 rfl) ?_
              obtain ⟨j380064, hj380064⟩ := wG_7 (cy := cy) (N := N) (T := T) (I := I380059) (Q := Q) (J := J380059) (hM.at 0 (by decide)) (hM.k 0 (by decide) rfl)
              have hFc := pfree hD hS hA
              refine va_callv (va_runV (As := [.int xp]) (rest := []) ⟨hx, hb, hml, hown, hts⟩ (f_X7_rise l dC dI cy w L K N T Q I380059 J380059 H.size xp sg380062 hM hth380004.1 (hMD _ (vp_lt (n := 4) hth380004.1)) hMR) (cwV 1 hts gX7_produce_X7_rise rfl rfl rfl (by decide +kernel) ⟨Nat.le_of_ble_eq_true rfl, Nat.le_of_ble_eq_true rfl⟩) ⟨mw_blind, va_recv hK hP (ci := 7) (q0 := j380064) rfl hj380064, fun U hU hW => ⟨rfl, mw_pre hP hK hD hU hW⟩⟩ rfl rfl hl.1 rfl (lv_room (Nat.le_of_ble_eq_true rfl)) dX7_produce_337 ⟨Nat.le_of_ble_eq_true rfl, Nat.le_of_ble_eq_true rfl⟩) hS (fun q _ h => hFc q h) hFc (fun d9 t H1 locs ht hvm hw hB hz1 hk1 hS => ?_)
              obtain ⟨I380065, J380065⟩ := d9
              obtain ⟨hP, hK1, hD1⟩ := hB
              rw [ht] at hP
              have hD := hD1.weaken (fun _ _ _ h => hFc _ h)
              generalize H1 = H at hP hS ⊢
              have hP : va_P (dC, dI) vwCl (va_pl L (wF cy K N T I380065 Q J380065)) H := hP
              have hD : va_D A (va_pl L (wF cy K N T I380065 Q J380065)) := hD
              have hMRn := hw.1
              have hw := hw.2
              have hw380067 : RZ w I380059 J380059 I380065 J380065 xp.toNatClampNeg := hw
              have hR : RM w [] I J I380065 J380065 := hR.rz hM (vp_lt (n := 4) hth380004.1) hw380067
              have hMD : MD w J380065 := hMD.rz hw380067
              have hMU : MU w I380065 := hMU.rz hM (vp_lt (n := 4) hth380004.1) hw380067
              have hML : ML w (E + 1) I380065 := hML.rz hM (vp_lt (n := 4) hth380004.1) hw380067
              obtain ⟨sg380068, esg380068⟩ : ∃ z, z = oRi sg380062 xp.toNatClampNeg := ⟨_, rfl⟩
              have hMR : MR w I380065 J380065 sg380068 := by rw [esg380068]; exact hMRn
              refine lv_aload hx hb dX7_produce_340 (lv_at hl 3 rfl) ?_
              obtain ⟨j380069, hj380069⟩ := wG_6 (cy := cy) (N := N) (T := T) (I := I380065) (Q := Q) (J := J380065) (hM.lg hjn380008).1 (hM.lg hjn380008).2
              refine va_get (D := (dC, dI)) (ci := 6) (v := .int (I380065 (w (21 + (5 * xp.toNatClampNeg + n380008))) 2)) (C := RX6) (T := TX6) (N := 7) hx hb hts hi6 hown hK hP j380069 hj380069 rfl 2 (by decide) (hts (.fieldLink RX7 89 "TallyLogsModel$Log" "end" "I") (by decide +kernel)) (fun _ h9 => h9) rfl dX7_produce_342 ?_
              refine lv_topi (fun x380070 ex380070 => ?_)
              have sx380070 : x380070 = sg380068.2.1 (5 * xp.toNatClampNeg + n380008) 2 := ex380070.trans (hMR.g hjn380008 (by decide) (by decide))
              have tx380070 : x380070.toInt = (I380065 (w (21 + (5 * xp.toNatClampNeg + n380008))) 2).toInt := congrArg Int32.toInt ex380070
              refine lv_iconst (v := 1) hx hb dX7_produce_345 (by decide) ?_
              refine lv_isub hx hb dX7_produce_346 ?_
              refine lv_topi (fun v380071 ev380071 => ?_)
              exact W.iret (v := v380071) hx hb hr (fun t ht hW => ⟨⟨v380071, (I380065, J380065), rfl, ⟨⟨hML.mono (by omega), hMD, hMU⟩, by have e9 : qPr σ xp xh xs xk xv al = (sg380068, v380071) := (by rw [qPr, if_neg (by have k9 := c380003; simp only [hir380001] at k9; exact k9), if_neg (fun q => q.1 c380005), oqn380008]; show (if _ then _ else _) = _; rw [if_pos c380005]; rw [if_neg (fun q => q.2 (by have k9 := c380046; simp only [sx380041, sx380045] at k9; exact k9))]; rw [if_neg (by have k9 := c380051; simp only [hir380048] at k9; exact k9)]; have ha9 : v380071 = σ.2.1 (5 * xp.toNatClampNeg + n380008) 2 := (by rw [ev380071, sx380070, esg380068, oRi_g (by decide)]; simp only [esg380062, sx380055]; rw [oAd_e]; exact Int32.add_sub_cancel _ _); rw [ha9]; refine Prod.ext ?_ rfl; show oPr _ _ _ _ _ _ _ _ = _; have hxp9 : nI xp.toNatClampNeg = xp := (xnI hth380004.1 (by decide)).symm; rw [oPr, if_neg (fun q => q.1 (by decide)), if_pos (by decide)]; rw [esg380068]; simp only [esg380062, sx380055, hxp9] <;> rfl); show MR w I380065 J380065 _; rw [e9]; exact hMR, by have e9 : qPr σ xp xh xs xk xv al = (sg380068, v380071) := (by rw [qPr, if_neg (by have k9 := c380003; simp only [hir380001] at k9; exact k9), if_neg (fun q => q.1 c380005), oqn380008]; show (if _ then _ else _) = _; rw [if_pos c380005]; rw [if_neg (fun q => q.2 (by have k9 := c380046; simp only [sx380041, sx380045] at k9; exact k9))]; rw [if_neg (by have k9 := c380051; simp only [hir380048] at k9; exact k9)]; have ha9 : v380071 = σ.2.1 (5 * xp.toNatClampNeg + n380008) 2 := (by rw [ev380071, sx380070, esg380068, oRi_g (by decide)]; simp only [esg380062, sx380055]; rw [oAd_e]; exact Int32.add_sub_cancel _ _); rw [ha9]; refine Prod.ext ?_ rfl; show oPr _ _ _ _ _ _ _ _ = _; have hxp9 : nI xp.toNatClampNeg = xp := (xnI hth380004.1 (by decide)).symm; rw [oPr, if_neg (fun q => q.1 (by decide)), if_pos (by decide)]; rw [esg380068]; simp only [esg380062, sx380055, hxp9] <;> rfl); show _ = _; rw [e9]⟩, by rw [ht]; exact hP, va_K.moved hW.alike hK, hD⟩, hS.F ht⟩) hS.2.2 dX7_produce_347
            · have kc380051 : r380048.toInt = 60 := by have h9 := c380051; rw [xk_eq, (show (60 : Int32).toInt = 60 by decide)] at h9; exact h9
              refine lv_bipush (v := (-3)) hx hb dX7_produce_251 (by decide) ?_
              exact W.iret (v := (-3)) hx hb hr (fun t ht hW => ⟨⟨(-3), (I, J), rfl, ⟨⟨hML.mono (by omega), hMD, hMU⟩, by have e9 : qPr σ xp xh xs xk xv al = (σ, (-3)) := (by rw [qPr, if_neg (by have k9 := c380003; simp only [hir380001] at k9; exact k9), if_neg (fun q => q.1 c380005), oqn380008]; show (if _ then _ else _) = _; rw [if_pos c380005]; rw [if_neg (fun q => q.2 (by have k9 := c380046; simp only [sx380041, sx380045] at k9; exact k9))]; rw [if_pos (by have k9 := c380051; simp only [hir380048] at k9; exact k9)]); show MR w I J _; rw [e9]; exact hMR, by have e9 : qPr σ xp xh xs xk xv al = (σ, (-3)) := (by rw [qPr, if_neg (by have k9 := c380003; simp only [hir380001] at k9; exact k9), if_neg (fun q => q.1 c380005), oqn380008]; show (if _ then _ else _) = _; rw [if_pos c380005]; rw [if_neg (fun q => q.2 (by have k9 := c380046; simp only [sx380041, sx380045] at k9; exact k9))]; rw [if_pos (by have k9 := c380051; simp only [hir380048] at k9; exact k9)]); show _ = _; rw [e9]⟩, by rw [ht]; exact hP, va_K.moved hW.alike hK, hD⟩, hS.F ht⟩) hS.2.2 dX7_produce_253
          · have kc380046 : ¬ (x380045.toInt ≤ (sp_bc x380041).toInt) := by have h9 := c380046; rw [xk_le] at h9; exact h9
            refine lv_bipush (v := (-5)) hx hb dX7_produce_119 (by decide) ?_
            exact W.iret (v := (-5)) hx hb hr (fun t ht hW => ⟨⟨(-5), (I, J), rfl, ⟨⟨hML.mono (by omega), hMD, hMU⟩, by have e9 : qPr σ xp xh xs xk xv al = (σ, (-5)) := (by rw [qPr, if_neg (by have k9 := c380003; simp only [hir380001] at k9; exact k9), if_neg (fun q => q.1 c380005), oqn380008]; show (if _ then _ else _) = _; rw [if_pos c380005]; rw [if_pos ⟨c380013, (by have k9 := c380046; simp only [sx380041, sx380045] at k9; exact k9)⟩]); show MR w I J _; rw [e9]; exact hMR, by have e9 : qPr σ xp xh xs xk xv al = (σ, (-5)) := (by rw [qPr, if_neg (by have k9 := c380003; simp only [hir380001] at k9; exact k9), if_neg (fun q => q.1 c380005), oqn380008]; show (if _ then _ else _) = _; rw [if_pos c380005]; rw [if_pos ⟨c380013, (by have k9 := c380046; simp only [sx380041, sx380045] at k9; exact k9)⟩]); show _ = _; rw [e9]⟩, by rw [ht]; exact hP, va_K.moved hW.alike hK, hD⟩, hS.F ht⟩) hS.2.2 dX7_produce_121
    · have kc380005 : ¬ (xh.toInt = (-1)) := by have h9 := c380005; rw [xk_eq, (show ((-1) : Int32).toInt = -1 by decide)] at h9; exact h9
      refine lv_iload_n hx hb dX7_produce_13 rfl (lv_at hl 2 rfl) ?_
      refine vp_callSi (W.runS (As := [.int xh]) (rest := []) ⟨hx, hb, hml, hown, hts⟩ (c_X7_isHandle l xh) (va_cwS 1 hts gX7_produce_X7_isHandle rfl rfl rfl (by decide +kernel) ⟨Nat.le_of_ble_eq_true rfl, Nat.le_of_ble_eq_true rfl⟩) preEq rfl rfl hl.1 rfl (lv_room (Nat.le_of_ble_eq_true rfl)) dX7_produce_14 ⟨Nat.le_of_ble_eq_true rfl, Nat.le_of_ble_eq_true rfl⟩) (fun r380072 hr380072 => ?_)
      subst hr380072
      refine lv_if_ne (tgt := 22) hx hb dX7_produce_17 (by decide) (fun c380073 => ?_) (fun c380073 => ?_)
      · have hih380074 := sp_ih1 c380073
        refine lv_aload_n hx hb dX7_produce_22 rfl (lv_at hl 0 rfl) ?_
        refine lv_iload_n hx hb dX7_produce_23 rfl (lv_at hl 1 rfl) ?_
        obtain ⟨j380076, hj380076⟩ := wG_7 (cy := cy) (N := N) (T := T) (I := I) (Q := Q) (J := J) (hM.at 0 (by decide)) (hM.k 0 (by decide) rfl)
        refine va_csq (W.runV (As := [.int xp]) (rest := []) ⟨hx, hb, hml, hown, hts⟩ (c_X7_own l dC dI cy w L K N T Q I J xp hM hth380004.1) (cwV 1 hts gX7_produce_X7_own rfl rfl rfl (by decide +kernel) ⟨Nat.le_of_ble_eq_true rfl, Nat.le_of_ble_eq_true rfl⟩) ⟨mb_blind, va_recv hK hP (ci := 7) (q0 := j380076) rfl hj380076, fun U hU hW => ⟨rfl, mb_pre hP hK hU hW⟩⟩ rfl rfl hl.1 rfl (lv_room (Nat.le_of_ble_eq_true rfl)) dX7_produce_24 ⟨Nat.le_of_ble_eq_true rfl, Nat.le_of_ble_eq_true rfl⟩) (fun r380075 hr380075 => ?_)
        subst hr380075
        rcases sp_ow_cs w (I (w 0) 16) (J (w 4) xp.toNatClampNeg) xp.toNatClampNeg with hon380077 | ⟨n380077, hnn380077, eln380077, hubn380077, hon380077⟩
        · refine W.eq (g2 := F0 m 27 ls [.null]) (by rw [hon380077]; rfl) ?_
          have oqn380077 := oOw_no hMR (vp_lt (n := 4) hth380004.1) hon380077
          refine lv_astoreN (lv' := [(7, .null), (0, .ref (w 0)), (1, .int xp), (2, .int xh), (3, .int xs), (4, .int xk), (5, .int xv), (6, .int al)]) hx hb dX7_produce_27 hl (by decide) rfl (fun ls hl => ?_)
          refine lv_aloadN hx hb dX7_produce_29 (lv_at hl 0 rfl) ?_
          refine lv_ifnonnullN hx hb dX7_produce_31 ?_
          refine lv_bipush (v := (-2)) hx hb dX7_produce_34 (by decide) ?_
          exact W.iret (v := (-2)) hx hb hr (fun t ht hW => ⟨⟨(-2), (I, J), rfl, ⟨⟨hML.mono (by omega), hMD, hMU⟩, by have e9 : qPr σ xp xh xs xk xv al = (σ, (-2)) := (by rw [qPr, if_neg (by have k9 := c380003; simp only [hir380001] at k9; exact k9), if_neg (fun q => c380073 q.2), oqn380077]); show MR w I J _; rw [e9]; exact hMR, by have e9 : qPr σ xp xh xs xk xv al = (σ, (-2)) := (by rw [qPr, if_neg (by have k9 := c380003; simp only [hir380001] at k9; exact k9), if_neg (fun q => c380073 q.2), oqn380077]); show _ = _; rw [e9]⟩, by rw [ht]; exact hP, va_K.moved hW.alike hK, hD⟩, hS.F ht⟩) hS.2.2 dX7_produce_36
        · have hjn380077 : (5 * xp.toNatClampNeg + n380077) < 20 := by have h1 := vp_lt (n := 4) hth380004.1; omega
          refine W.eq (g2 := F0 m 27 ls [.ref (w (21 + (5 * xp.toNatClampNeg + n380077)))]) (by rw [hon380077]; rfl) ?_
          have oqn380077 := oOw_of hM hMR (vp_lt (n := 4) hth380004.1) hnn380077 eln380077 hubn380077
          refine lv_astore (lv' := [(7, .ref (w (21 + (5 * xp.toNatClampNeg + n380077)))), (0, .ref (w 0)), (1, .int xp), (2, .int xh), (3, .int xs), (4, .int xk), (5, .int xv), (6, .int al)]) hx hb dX7_produce_27 hl (by decide) rfl (fun ls hl => ?_)
          refine lv_aload hx hb dX7_produce_29 (lv_at hl 0 rfl) ?_
          refine lv_ifnonnull (tgt := 37) hx hb dX7_produce_31 (by decide) ?_
          obtain ⟨ha380078, hb380078, hc380078, hd380078, he380078, hf380078⟩ := hML (5 * xp.toNatClampNeg + n380077) hjn380077
          refine lv_iload_n hx hb dX7_produce_37 rfl (lv_at hl 3 rfl) ?_
          refine lv_if_ge (tgt := 45) hx hb dX7_produce_38 (by decide) (fun c380079 => ?_) (fun c380079 => ?_)
          rotate_left
          · exact absurd hih380074.1 c380079
          refine lv_iload_n hx hb dX7_produce_45 rfl (lv_at hl 3 rfl) ?_
          refine lv_bipush (v := 8) hx hb dX7_produce_46 (by decide) ?_
          refine lv_irem hx hb dX7_produce_48 (by decide) ?_
          refine lv_topi (fun v380080 ev380080 => ?_)
          have hin380081 : vp_in v380080 6 := by rw [ev380080]; exact hih380074.2
          refine lv_istore (lv' := [(8, .int v380080), (7, .ref (w (21 + (5 * xp.toNatClampNeg + n380077)))), (0, .ref (w 0)), (1, .int xp), (2, .int xh), (3, .int xs), (4, .int xk), (5, .int xv), (6, .int al)]) hx hb dX7_produce_49 hl (by decide) rfl (fun ls hl => ?_)
          refine lv_iload_n hx hb dX7_produce_51 rfl (lv_at hl 4 rfl) ?_
          refine lv_if_ge (tgt := 59) hx hb dX7_produce_52 (by decide) (fun c380082 => ?_) (fun c380082 => ?_)
          rotate_left
          · exact absurd hih380074.1 c380082
          refine lv_iload_n hx hb dX7_produce_59 rfl (lv_at hl 4 rfl) ?_
          refine lv_bipush (v := 8) hx hb dX7_produce_60 (by decide) ?_
          refine lv_idiv hx hb dX7_produce_62 (by decide) ?_
          refine lv_topi (fun v380083 ev380083 => ?_)
          refine lv_istore (lv' := [(9, .int v380083), (8, .int v380080), (7, .ref (w (21 + (5 * xp.toNatClampNeg + n380077)))), (0, .ref (w 0)), (1, .int xp), (2, .int xh), (3, .int xs), (4, .int xk), (5, .int xv), (6, .int al)]) hx hb dX7_produce_63 hl (by decide) rfl (fun ls hl => ?_)
          refine lv_iload hx hb dX7_produce_65 (lv_at hl 1 rfl) ?_
          refine lv_if_lt (tgt := 96) hx hb dX7_produce_67 (by decide) (fun c380084 => ?_) (fun c380084 => ?_)
          · exact absurd ((xk_lt _ _).mp c380084) (by rw [xk_0]; have h9 := vp_in_iff.mp hin380081; omega)
          refine lv_aload_n hx hb dX7_produce_70 rfl (lv_at hl 3 rfl) ?_
          obtain ⟨j380085, hj380085⟩ := wG_7 (cy := cy) (N := N) (T := T) (I := I) (Q := Q) (J := J) (hM.at 0 (by decide)) (hM.k 0 (by decide) rfl)
          refine va_get (D := (dC, dI)) (ci := 7) (v := .ref (T (w 0) 7)) (C := RX7) (T := TX7) (N := 18) hx hb hts hi7 hown hK hP j380085 hj380085 rfl 7 (by decide) (hts (.fieldLink RX7 34 "TallyLogsModel" "generation" "[I") (by decide +kernel)) (fun _ h9 => h9) rfl dX7_produce_71 ?_
          refine W.eq (g2 := F0 m 74 ls [.ref (w 8)]) (by rw [hM.t 7 (by decide)]) ?_
          refine lv_iload hx hb dX7_produce_74 (lv_at hl 1 rfl) ?_
          obtain ⟨j380086, hj380086⟩ := wG_20 (cy := cy) (N := N) (T := T) (I := I) (Q := Q) (J := J) (hM.at 8 (by decide)) (hM.k 8 (by decide) rfl)
          refine va_iald hx hb hK hP j380086 1 hj380086 rfl (hM.inN (n := 6) 8 (by decide) rfl rfl hin380081) dX7_produce_76 ?_
          refine lv_topi (fun x380087 ex380087 => ?_)
          have sx380087 : x380087 = σ.1 8 v380080.toNatClampNeg := ex380087.trans (hMR.a (k := 8) (by decide) (by decide) (show _ < 6 from vp_lt (n := 6) hin380081))
          refine lv_iload hx hb dX7_produce_77 (lv_at hl 0 rfl) ?_
          refine lv_icmp_ne (tgt := 93) hx hb dX7_produce_79 (by decide) (fun c380088 => ?_) (fun c380088 => ?_)
          · have kc380088 : ¬ (x380087.toInt = v380083.toInt) := by have h9 := c380088; rw [xk_eq] at h9; exact h9
            refine lv_bipush (v := (-4)) hx hb dX7_produce_93 (by decide) ?_
            exact W.iret (v := (-4)) hx hb hr (fun t ht hW => ⟨⟨(-4), (I, J), rfl, ⟨⟨hML.mono (by omega), hMD, hMU⟩, by have e9 : qPr σ xp xh xs xk xv al = (σ, (-4)) := (by have hk9 : xh - xh / 8 * 8 = v380080 := (by simp only [ev380080]); have hg9 : xh / 8 = v380083 := (by simp only [ev380083]); rw [qPr, if_neg (by have k9 := c380003; simp only [hir380001] at k9; exact k9), if_neg (fun q => c380073 q.2), oqn380077]; show (if _ then _ else _) = _; rw [if_neg c380005]; rw [if_pos (Or.inl (by have k9 := c380088; simp only [sx380087, ev380080, ev380083] at k9; exact k9))]); show MR w I J _; rw [e9]; exact hMR, by have e9 : qPr σ xp xh xs xk xv al = (σ, (-4)) := (by have hk9 : xh - xh / 8 * 8 = v380080 := (by simp only [ev380080]); have hg9 : xh / 8 = v380083 := (by simp only [ev380083]); rw [qPr, if_neg (by have k9 := c380003; simp only [hir380001] at k9; exact k9), if_neg (fun q => c380073 q.2), oqn380077]; show (if _ then _ else _) = _; rw [if_neg c380005]; rw [if_pos (Or.inl (by have k9 := c380088; simp only [sx380087, ev380080, ev380083] at k9; exact k9))]); show _ = _; rw [e9]⟩, by rw [ht]; exact hP, va_K.moved hW.alike hK, hD⟩, hS.F ht⟩) hS.2.2 dX7_produce_95
          · have kc380088 : x380087.toInt = v380083.toInt := by have h9 := c380088; rw [xk_eq] at h9; exact h9
            refine lv_aload_n hx hb dX7_produce_82 rfl (lv_at hl 3 rfl) ?_
            obtain ⟨j380089, hj380089⟩ := wG_7 (cy := cy) (N := N) (T := T) (I := I) (Q := Q) (J := J) (hM.at 0 (by decide)) (hM.k 0 (by decide) rfl)
            refine va_get (D := (dC, dI)) (ci := 7) (v := .ref (T (w 0) 8)) (C := RX7) (T := TX7) (N := 18) hx hb hts hi7 hown hK hP j380089 hj380089 rfl 8 (by decide) (hts (.fieldLink RX7 37 "TallyLogsModel" "mode" "[I") (by decide +kernel)) (fun _ h9 => h9) rfl dX7_produce_83 ?_
            refine W.eq (g2 := F0 m 86 ls [.ref (w 9)]) (by rw [hM.t 8 (by decide)]) ?_
            refine lv_iload hx hb dX7_produce_86 (lv_at hl 1 rfl) ?_
            obtain ⟨j380090, hj380090⟩ := wG_20 (cy := cy) (N := N) (T := T) (I := I) (Q := Q) (J := J) (hM.at 9 (by decide)) (hM.k 9 (by decide) rfl)
            refine va_iald hx hb hK hP j380090 1 hj380090 rfl (hM.inN (n := 6) 9 (by decide) rfl rfl hin380081) dX7_produce_88 ?_
            refine lv_topi (fun x380091 ex380091 => ?_)
            have sx380091 : x380091 = σ.1 9 v380080.toNatClampNeg := ex380091.trans (hMR.a (k := 9) (by decide) (by decide) (show _ < 6 from vp_lt (n := 6) hin380081))
            refine lv_iconst (v := 2) hx hb dX7_produce_89 (by decide) ?_
            refine lv_icmp_ne (tgt := 96) hx hb dX7_produce_90 (by decide) (fun c380092 => ?_) (fun c380092 => ?_)
            · have kc380092 : ¬ (x380091.toInt = 2) := by have h9 := c380092; rw [xk_eq, xk_2] at h9; exact h9
              refine lv_iload hx hb dX7_produce_96 (lv_at hl 9 rfl) ?_
              refine lv_if_eq (tgt := 122) hx hb dX7_produce_98 (by decide) (fun c380093 => ?_) (fun c380093 => ?_)
              · have kc380093 : al.toInt = 0 := by have h9 := c380093; rw [xk_eq, xk_0] at h9; exact h9
                refine lv_iload hx hb dX7_produce_122 (lv_at hl 1 rfl) ?_
                refine lv_if_lt (tgt := 241) hx hb dX7_produce_124 (by decide) (fun c380094 => ?_) (fun c380094 => ?_)
                · exact absurd ((xk_lt _ _).mp c380094) (by rw [xk_0]; have h9 := vp_in_iff.mp hin380081; omega)
                refine lv_iconst (v := (-1)) hx hb dX7_produce_127 (by decide) ?_
                refine lv_istore (lv' := [(10, .int (-1)), (9, .int v380083), (8, .int v380080), (7, .ref (w (21 + (5 * xp.toNatClampNeg + n380077)))), (0, .ref (w 0)), (1, .int xp), (2, .int xh), (3, .int xs), (4, .int xk), (5, .int xv), (6, .int al)]) hx hb dX7_produce_128 hl (by decide) rfl (fun ls hl => ?_)
                refine lv_aload hx hb dX7_produce_130 (lv_at hl 3 rfl) ?_
                obtain ⟨j380095, hj380095⟩ := wG_6 (cy := cy) (N := N) (T := T) (I := I) (Q := Q) (J := J) (hM.lg hjn380077).1 (hM.lg hjn380077).2
                refine va_get (D := (dC, dI)) (ci := 6) (v := .int (I (w (21 + (5 * xp.toNatClampNeg + n380077))) 1)) (C := RX6) (T := TX6) (N := 7) hx hb hts hi6 hown hK hP j380095 hj380095 rfl 1 (by decide) (hts (.fieldLink RX7 134 "TallyLogsModel$Log" "start" "I") (by decide +kernel)) (fun _ h9 => h9) rfl dX7_produce_132 ?_
                refine lv_topi (fun x380096 ex380096 => ?_)
                have sx380096 : x380096 = σ.2.1 (5 * xp.toNatClampNeg + n380077) 1 := ex380096.trans (hMR.g hjn380077 (by decide) (by decide))
                have tx380096 : x380096.toInt = (I (w (21 + (5 * xp.toNatClampNeg + n380077))) 1).toInt := congrArg Int32.toInt ex380096
                refine lv_istore (lv' := [(11, .int x380096), (10, .int (-1)), (9, .int v380083), (8, .int v380080), (7, .ref (w (21 + (5 * xp.toNatClampNeg + n380077)))), (0, .ref (w 0)), (1, .int xp), (2, .int xh), (3, .int xs), (4, .int xk), (5, .int xv), (6, .int al)]) hx hb dX7_produce_135 hl (by decide) rfl (fun ls hl => ?_)
                refine wq_gen (fun Qz hQz => ?_)
                have hLP380097 : ∀ (n : Nat) (y380098 y380099 : Int32) (ls : Array Slot), ((I (w (21 + (5 * xp.toNatClampNeg + n380077))) 2).toInt - y380098.toInt).toNat < n → 0 ≤ y380098.toInt → ((I (w (21 + (5 * xp.toNatClampNeg + n380077))) 1).toInt ≤ y380098.toInt ∧ (y380099.toInt = -1 ∨ ((I (w (21 + (5 * xp.toNatClampNeg + n380077))) 1).toInt ≤ y380099.toInt ∧ y380099.toInt < (I (w (21 + (5 * xp.toNatClampNeg + n380077))) 2).toInt)) ∧ y380098.toInt ≤ (I (w (21 + (5 * xp.toNatClampNeg + n380077))) 2).toInt ∧ fU (pSq σ (5 * xp.toNatClampNeg + n380077) v380080 v380083 xs) (ze σ (5 * xp.toNatClampNeg + n380077) - y380098.toNatClampNeg) y380098.toNatClampNeg = fU (pSq σ (5 * xp.toNatClampNeg + n380077) v380080 v380083 xs) (ze σ (5 * xp.toNatClampNeg + n380077) - zb σ (5 * xp.toNatClampNeg + n380077)) (zb σ (5 * xp.toNatClampNeg + n380077)) ∧ y380099 = oLv (fD (pDt σ (5 * xp.toNatClampNeg + n380077) v380080 v380083) (zb σ (5 * xp.toNatClampNeg + n380077)) (y380098.toNatClampNeg - zb σ (5 * xp.toNatClampNeg + n380077)))) → lv_has ls 12 [(11, .int y380098), (10, .int y380099), (9, .int v380083), (8, .int v380080), (7, .ref (w (21 + (5 * xp.toNatClampNeg + n380077)))), (0, .ref (w 0)), (1, .int xp), (2, .int xh), (3, .int xs), (4, .int xk), (5, .int xv), (6, .int al)] → W p l e (headSpec wsX7_produce ({ frames := 4, cells := 0, slots := 0, locals := 99 })).room s m ([.ref (w 0), .int xp, .int xh, .int xs, .int xk, .int xv, .int al] : List Value).toArray below meth c s.heap [] 0 0 Qz (F0 m 137 ls []) := by
                  intro n
                  induction n with
                  | zero => intro y380098 y380099 ls hms; exact absurd hms (Nat.not_lt_zero _)
                  | succ n ih380097 =>
                    intro y380098 y380099 ls hms hnn380097 hiv380097 hl
                    obtain ⟨hiw, hiw2, hiw3, _⟩ := id hiv380097
                    refine lv_iload hx hb dX7_produce_137 (lv_at hl 0 rfl) ?_
                    refine lv_aload hx hb dX7_produce_139 (lv_at hl 4 rfl) ?_
                    obtain ⟨j380100, hj380100⟩ := wG_6 (cy := cy) (N := N) (T := T) (I := I) (Q := Q) (J := J) (hM.lg hjn380077).1 (hM.lg hjn380077).2
                    refine va_get (D := (dC, dI)) (ci := 6) (v := .int (I (w (21 + (5 * xp.toNatClampNeg + n380077))) 2)) (C := RX6) (T := TX6) (N := 7) hx hb hts hi6 hown hK hP j380100 hj380100 rfl 2 (by decide) (hts (.fieldLink RX7 89 "TallyLogsModel$Log" "end" "I") (by decide +kernel)) (fun _ h9 => h9) rfl dX7_produce_141 ?_
                    refine lv_topi (fun x380101 ex380101 => ?_)
                    have sx380101 : x380101 = σ.2.1 (5 * xp.toNatClampNeg + n380077) 2 := ex380101.trans (hMR.g hjn380077 (by decide) (by decide))
                    have tx380101 : x380101.toInt = (I (w (21 + (5 * xp.toNatClampNeg + n380077))) 2).toInt := congrArg Int32.toInt ex380101
                    refine lv_icmp_ge (tgt := 212) hx hb dX7_produce_144 (by decide) (fun c380102 => ?_) (fun c380102 => ?_)
                    · have kc380102 : x380101.toInt ≤ y380098.toInt := by have h9 := c380102; rw [xk_le] at h9; exact h9
                      have hfu : fU (pSq σ (5 * xp.toNatClampNeg + n380077) v380080 v380083 xs) (ze σ (5 * xp.toNatClampNeg + n380077) - zb σ (5 * xp.toNatClampNeg + n380077)) (zb σ (5 * xp.toNatClampNeg + n380077)) = none := by rw [← hiv380097.2.2.2.1, fU_end (hMR.gee hjn380077 (by omega))]
                      have hla : y380099 = oLv (fD (pDt σ (5 * xp.toNatClampNeg + n380077) v380080 v380083) (zb σ (5 * xp.toNatClampNeg + n380077)) (ze σ (5 * xp.toNatClampNeg + n380077) - zb σ (5 * xp.toNatClampNeg + n380077))) := by rw [hMR.eqe (y := y380098) hjn380077 (by omega)]; exact hiv380097.2.2.2.2
                      cases hfd : fD (pDt σ (5 * xp.toNatClampNeg + n380077) v380080 v380083) (zb σ (5 * xp.toNatClampNeg + n380077)) (ze σ (5 * xp.toNatClampNeg + n380077) - zb σ (5 * xp.toNatClampNeg + n380077)) with
                      | none =>
                        rw [hfd] at hla
                        have hla : y380099 = (-1) := hla
                        refine lv_iload hx hb dX7_produce_212 (lv_at hl 1 rfl) ?_
                        refine lv_if_ge (tgt := 224) hx hb dX7_produce_214 (by decide) (fun c380104 => ?_) (fun c380104 => ?_)
                        · exact absurd c380104 (by rw [hla]; decide)
                        refine lv_iload_n hx hb dX7_produce_217 rfl (lv_at hl 8 rfl) ?_
                        refine lv_if_eq (tgt := 241) hx hb dX7_produce_218 (by decide) (fun c380105 => ?_) (fun c380105 => ?_)
                        · have kc380105 : xs.toInt = 0 := by have h9 := c380105; rw [xk_eq, xk_0] at h9; exact h9
                          refine lv_aload hx hb dX7_produce_241 (lv_at hl 4 rfl) ?_
                          obtain ⟨j380107, hj380107⟩ := wG_6 (cy := cy) (N := N) (T := T) (I := I) (Q := Q) (J := J) (hM.lg hjn380077).1 (hM.lg hjn380077).2
                          refine vp_callSi (W.runV (As := []) (rest := []) ⟨hx, hb, hml, hown, hts⟩ (c_X6_many l dC dI cy w L K N T Q I J (5 * xp.toNatClampNeg + n380077) hM hjn380077) (cwV 0 hts gX7_produce_X6_many rfl rfl rfl (by decide +kernel) ⟨Nat.le_of_ble_eq_true rfl, Nat.le_of_ble_eq_true rfl⟩) ⟨mb_blind, va_recv hK hP (ci := 6) (q0 := j380107) rfl hj380107, fun U hU hW => ⟨rfl, mb_pre hP hK hU hW⟩⟩ rfl rfl hl.1 rfl (lv_room (Nat.le_of_ble_eq_true rfl)) dX7_produce_243 ⟨Nat.le_of_ble_eq_true rfl, Nat.le_of_ble_eq_true rfl⟩) (fun r380106 hr380106 => ?_)
                          obtain ⟨ha380108, hb380108, hc380108, hd380108, he380108, hf380108⟩ := hML (5 * xp.toNatClampNeg + n380077) hjn380077
                          have tr380106 : r380106.toInt = (I (w (21 + (5 * xp.toNatClampNeg + n380077))) 2).toInt - (I (w (21 + (5 * xp.toNatClampNeg + n380077))) 1).toInt := by rw [hr380106]; exact xsub (by omega) (by omega)
                          have hir380106 : r380106 = σ.2.1 (5 * xp.toNatClampNeg + n380077) 2 - σ.2.1 (5 * xp.toNatClampNeg + n380077) 1 := by rw [hr380106, hMR.g hjn380077 (by decide) (by decide), hMR.g hjn380077 (by decide) (by decide)]
                          refine lv_bipush (v := 60) hx hb dX7_produce_246 (by decide) ?_
                          refine lv_icmp_ne (tgt := 254) hx hb dX7_produce_248 (by decide) (fun c380109 => ?_) (fun c380109 => ?_)
                          · have kc380109 : ¬ (r380106.toInt = 60) := by have h9 := c380109; rw [xk_eq, (show (60 : Int32).toInt = 60 by decide)] at h9; exact h9
                            refine lv_iload hx hb dX7_produce_254 (lv_at hl 3 rfl) ?_
                            refine lv_if_lt (tgt := 274) hx hb dX7_produce_256 (by decide) (fun c380110 => ?_) (fun c380110 => ?_)
                            · exact absurd ((xk_lt _ _).mp c380110) (by rw [xk_0]; have h9 := vp_in_iff.mp hin380081; omega)
                            refine lv_aload_n hx hb dX7_produce_259 rfl (lv_at hl 5 rfl) ?_
                            obtain ⟨j380111, hj380111⟩ := wG_7 (cy := cy) (N := N) (T := T) (I := I) (Q := Q) (J := J) (hM.at 0 (by decide)) (hM.k 0 (by decide) rfl)
                            refine va_get (D := (dC, dI)) (ci := 7) (v := .ref (T (w 0) 8)) (C := RX7) (T := TX7) (N := 18) hx hb hts hi7 hown hK hP j380111 hj380111 rfl 8 (by decide) (hts (.fieldLink RX7 37 "TallyLogsModel" "mode" "[I") (by decide +kernel)) (fun _ h9 => h9) rfl dX7_produce_260 ?_
                            refine W.eq (g2 := F0 m 263 ls [.ref (w 9)]) (by rw [hM.t 8 (by decide)]) ?_
                            refine lv_iload hx hb dX7_produce_263 (lv_at hl 3 rfl) ?_
                            obtain ⟨j380112, hj380112⟩ := wG_20 (cy := cy) (N := N) (T := T) (I := I) (Q := Q) (J := J) (hM.at 9 (by decide)) (hM.k 9 (by decide) rfl)
                            refine va_iald hx hb hK hP j380112 1 hj380112 rfl (hM.inN (n := 6) 9 (by decide) rfl rfl hin380081) dX7_produce_265 ?_
                            refine lv_topi (fun x380113 ex380113 => ?_)
                            have sx380113 : x380113 = σ.1 9 v380080.toNatClampNeg := ex380113.trans (hMR.a (k := 9) (by decide) (by decide) (show _ < 6 from vp_lt (n := 6) hin380081))
                            refine lv_iconst (v := 1) hx hb dX7_produce_266 (by decide) ?_
                            refine lv_icmp_ne (tgt := 274) hx hb dX7_produce_267 (by decide) (fun c380114 => ?_) (fun c380114 => ?_)
                            · have kc380114 : ¬ (x380113.toInt = 1) := by have h9 := c380114; rw [xk_eq, xk_1] at h9; exact h9
                              refine lv_iconst (v := 0) hx hb dX7_produce_274 (by decide) ?_
                              refine lv_istore (lv' := [(10, .int 0), (11, .int y380098), (9, .int v380083), (8, .int v380080), (7, .ref (w (21 + (5 * xp.toNatClampNeg + n380077)))), (0, .ref (w 0)), (1, .int xp), (2, .int xh), (3, .int xs), (4, .int xk), (5, .int xv), (6, .int al)]) hx hb dX7_produce_275 hl (by decide) rfl (fun ls hl => ?_)
                              refine lv_aload hx hb dX7_produce_277 (lv_at hl 4 rfl) ?_
                              refine lv_aload_n hx hb dX7_produce_279 rfl (lv_at hl 5 rfl) ?_
                              obtain ⟨j380115, hj380115⟩ := wG_7 (cy := cy) (N := N) (T := T) (I := I) (Q := Q) (J := J) (hM.at 0 (by decide)) (hM.k 0 (by decide) rfl)
                              refine va_get (D := (dC, dI)) (ci := 7) (v := .ref (T (w 0) 4)) (C := RX7) (T := TX7) (N := 18) hx hb hts hi7 hown hK hP j380115 hj380115 rfl 4 (by decide) (hts (.fieldLink RX7 25 "TallyLogsModel" "epoch" "[I") (by decide +kernel)) (fun _ h9 => h9) rfl dX7_produce_280 ?_
                              refine W.eq (g2 := F0 m 283 ls [.ref (w 5), .ref (w (21 + (5 * xp.toNatClampNeg + n380077)))]) (by rw [hM.t 4 (by decide)]) ?_
                              refine lv_iload_n hx hb dX7_produce_283 rfl (lv_at hl 6 rfl) ?_
                              obtain ⟨j380116, hj380116⟩ := wG_20 (cy := cy) (N := N) (T := T) (I := I) (Q := Q) (J := J) (hM.at 5 (by decide)) (hM.k 5 (by decide) rfl)
                              refine va_iald hx hb hK hP j380116 1 hj380116 rfl (hM.inN (n := 4) 5 (by decide) rfl rfl hth380004.1) dX7_produce_284 ?_
                              refine lv_topi (fun x380117 ex380117 => ?_)
                              have sx380117 : x380117 = σ.1 5 xp.toNatClampNeg := ex380117.trans (hMR.a (k := 5) (by decide) (by decide) (show _ < 4 from vp_lt (n := 4) hth380004.1))
                              refine lv_iconst (v := 0) hx hb dX7_produce_285 (by decide) ?_
                              refine lv_iload hx hb dX7_produce_286 (lv_at hl 3 rfl) ?_
                              refine lv_iload hx hb dX7_produce_288 (lv_at hl 2 rfl) ?_
                              refine lv_iload hx hb dX7_produce_290 (lv_at hl 3 rfl) ?_
                              refine lv_if_ge (tgt := 299) hx hb dX7_produce_292 (by decide) (fun c380118 => ?_) (fun c380118 => ?_)
                              rotate_left
                              · exact absurd ((xk_le _ _).mpr (by rw [xk_0]; have h9 := vp_in_iff.mp hin380081; omega)) c380118
                              refine lv_iload_n hx hb dX7_produce_299 rfl (lv_at hl 8 rfl) ?_
                              refine lv_iload hx hb dX7_produce_300 (lv_at hl 9 rfl) ?_
                              refine lv_iload hx hb dX7_produce_302 (lv_at hl 10 rfl) ?_
                              refine lv_iload hx hb dX7_produce_304 (lv_at hl 0 rfl) ?_
                              refine lv_if_eq (tgt := 313) hx hb dX7_produce_306 (by decide) (fun c380119 => ?_) (fun c380119 => ?_)
                              rotate_left
                              · exact absurd c380119 (by decide)
                              refine lv_iconst (v := 0) hx hb dX7_produce_313 (by decide) ?_
                              obtain ⟨j380120, hj380120⟩ := wG_6 (cy := cy) (N := N) (T := T) (I := I) (Q := Q) (J := J) (hM.lg hjn380077).1 (hM.lg hjn380077).2
                              have hFc := pfree hD hS hA
                              refine va_callv (va_runV (As := [.int x380117, .int 0, .int v380080, .int v380083, .int xs, .int xk, .int xv, .int 0]) (rest := []) ⟨hx, hb, hml, hown, hts⟩ (f_X6_add l dC dI cy w L K N T Q I J s.heap.size (5 * xp.toNatClampNeg + n380077) x380117 0 v380080 v380083 xs xk xv 0 σ hM hjn380077 (by omega) (by omega) (by omega) (by omega) hMR) (cwV 8 hts gX7_produce_X6_add rfl rfl rfl (by decide +kernel) ⟨Nat.le_of_ble_eq_true rfl, Nat.le_of_ble_eq_true rfl⟩) ⟨mw_blind, va_recv hK hP (ci := 6) (q0 := j380120) rfl hj380120, fun U hU hW => ⟨rfl, mw_pre hP hK hD hU hW⟩⟩ rfl rfl hl.1 rfl (lv_room (Nat.le_of_ble_eq_true rfl)) dX7_produce_314 ⟨Nat.le_of_ble_eq_true rfl, Nat.le_of_ble_eq_true rfl⟩) hS (fun q _ h => hFc q h) hFc (fun d9 t H1 locs ht hvm hw hB hz1 hk1 hS => ?_)
                              obtain ⟨I380121, J380121⟩ := d9
                              obtain ⟨hP, hK1, hD1⟩ := hB
                              rw [ht] at hP
                              have hD := hD1.weaken (fun _ _ _ h => hFc _ h)
                              generalize H1 = H at hP hS ⊢
                              have hP : va_P (dC, dI) vwCl (va_pl L (wF cy K N T I380121 Q J380121)) H := hP
                              have hD : va_D A (va_pl L (wF cy K N T I380121 Q J380121)) := hD
                              have hMRn := hw.1
                              have hw := hw.2
                              have hw380123 : LW w I J I380121 J380121 (5 * xp.toNatClampNeg + n380077) _ _ := hw
                              have hR : RM w [] I J I380121 J380121 := hR.lw hM hjn380077 hw380123
                              have hMD : MD w J380121 := hMD.lw hM hjn380077 hw380123
                              have hMU : MU w I380121 := hMU.lw hM hjn380077 hw380123
                              have q1hw380123 : (I380121 (w (21 + (5 * xp.toNatClampNeg + n380077))) 1).toInt = _ := hw380123.2.2.1
                              have q2hw380123 : (I380121 (w (21 + (5 * xp.toNatClampNeg + n380077))) 2).toInt = _ := hw380123.2.2.2
                              have q3hw380123 : (I380121 (w (21 + (5 * xp.toNatClampNeg + n380077))) 3).toInt = _ := congrArg Int32.toInt hw380123.f3
                              have q4hw380123 : (I380121 (w (21 + (5 * xp.toNatClampNeg + n380077))) 4).toInt = _ := congrArg Int32.toInt hw380123.f4
                              have hML : ML w (E + 1) I380121 := hML.lw hM hjn380077 hw380123 (by omega) ⟨by omega, by omega, by omega, by omega, by omega, by omega⟩
                              obtain ⟨sg380124, esg380124⟩ : ∃ z, z = oAd σ (5 * xp.toNatClampNeg + n380077) (r8 x380117 0 v380080 v380083 xs xk xv 0) := ⟨_, rfl⟩
                              have hMR : MR w I380121 J380121 sg380124 := by rw [esg380124]; exact hMRn
                              refine lv_iload hx hb dX7_produce_317 (lv_at hl 0 rfl) ?_
                              refine lv_if_eq (tgt := 335) hx hb dX7_produce_319 (by decide) (fun c380125 => ?_) (fun c380125 => ?_)
                              rotate_left
                              · exact absurd c380125 (by decide)
                              refine lv_aload_n hx hb dX7_produce_335 rfl (lv_at hl 5 rfl) ?_
                              refine lv_iload_n hx hb dX7_produce_336 rfl (lv_at hl 6 rfl) ?_
                              obtain ⟨j380126, hj380126⟩ := wG_7 (cy := cy) (N := N) (T := T) (I := I380121) (Q := Q) (J := J380121) (hM.at 0 (by decide)) (hM.k 0 (by decide) rfl)
                              have hFc := pfree hD hS hA
                              refine va_callv (va_runV (As := [.int xp]) (rest := []) ⟨hx, hb, hml, hown, hts⟩ (f_X7_rise l dC dI cy w L K N T Q I380121 J380121 H.size xp sg380124 hM hth380004.1 (hMD _ (vp_lt (n := 4) hth380004.1)) hMR) (cwV 1 hts gX7_produce_X7_rise rfl rfl rfl (by decide +kernel) ⟨Nat.le_of_ble_eq_true rfl, Nat.le_of_ble_eq_true rfl⟩) ⟨mw_blind, va_recv hK hP (ci := 7) (q0 := j380126) rfl hj380126, fun U hU hW => ⟨rfl, mw_pre hP hK hD hU hW⟩⟩ rfl rfl hl.1 rfl (lv_room (Nat.le_of_ble_eq_true rfl)) dX7_produce_337 ⟨Nat.le_of_ble_eq_true rfl, Nat.le_of_ble_eq_true rfl⟩) hS (fun q _ h => hFc q h) hFc (fun d9 t H1 locs ht hvm hw hB hz1 hk1 hS => ?_)
                              obtain ⟨I380127, J380127⟩ := d9
                              obtain ⟨hP, hK1, hD1⟩ := hB
                              rw [ht] at hP
                              have hD := hD1.weaken (fun _ _ _ h => hFc _ h)
                              generalize H1 = H at hP hS ⊢
                              have hP : va_P (dC, dI) vwCl (va_pl L (wF cy K N T I380127 Q J380127)) H := hP
                              have hD : va_D A (va_pl L (wF cy K N T I380127 Q J380127)) := hD
                              have hMRn := hw.1
                              have hw := hw.2
                              have hw380129 : RZ w I380121 J380121 I380127 J380127 xp.toNatClampNeg := hw
                              have hR : RM w [] I J I380127 J380127 := hR.rz hM (vp_lt (n := 4) hth380004.1) hw380129
                              have hMD : MD w J380127 := hMD.rz hw380129
                              have hMU : MU w I380127 := hMU.rz hM (vp_lt (n := 4) hth380004.1) hw380129
                              have hML : ML w (E + 1) I380127 := hML.rz hM (vp_lt (n := 4) hth380004.1) hw380129
                              obtain ⟨sg380130, esg380130⟩ : ∃ z, z = oRi sg380124 xp.toNatClampNeg := ⟨_, rfl⟩
                              have hMR : MR w I380127 J380127 sg380130 := by rw [esg380130]; exact hMRn
                              refine lv_aload hx hb dX7_produce_340 (lv_at hl 4 rfl) ?_
                              obtain ⟨j380131, hj380131⟩ := wG_6 (cy := cy) (N := N) (T := T) (I := I380127) (Q := Q) (J := J380127) (hM.lg hjn380077).1 (hM.lg hjn380077).2
                              refine va_get (D := (dC, dI)) (ci := 6) (v := .int (I380127 (w (21 + (5 * xp.toNatClampNeg + n380077))) 2)) (C := RX6) (T := TX6) (N := 7) hx hb hts hi6 hown hK hP j380131 hj380131 rfl 2 (by decide) (hts (.fieldLink RX7 89 "TallyLogsModel$Log" "end" "I") (by decide +kernel)) (fun _ h9 => h9) rfl dX7_produce_342 ?_
                              refine lv_topi (fun x380132 ex380132 => ?_)
                              have sx380132 : x380132 = sg380130.2.1 (5 * xp.toNatClampNeg + n380077) 2 := ex380132.trans (hMR.g hjn380077 (by decide) (by decide))
                              have tx380132 : x380132.toInt = (I380127 (w (21 + (5 * xp.toNatClampNeg + n380077))) 2).toInt := congrArg Int32.toInt ex380132
                              refine lv_iconst (v := 1) hx hb dX7_produce_345 (by decide) ?_
                              refine lv_isub hx hb dX7_produce_346 ?_
                              refine lv_topi (fun v380133 ev380133 => ?_)
                              rw [hQz]
                              exact W.iret (v := v380133) hx hb hr (fun t ht hW => ⟨⟨v380133, (I380127, J380127), rfl, ⟨⟨hML.mono (by omega), hMD, hMU⟩, by have e9 : qPr σ xp xh xs xk xv al = (sg380130, v380133) := (by have hk9 : xh - xh / 8 * 8 = v380080 := (by simp only [ev380080]); have hg9 : xh / 8 = v380083 := (by simp only [ev380083]); rw [qPr, if_neg (by have k9 := c380003; simp only [hir380001] at k9; exact k9), if_neg (fun q => c380073 q.2), oqn380077]; show (if _ then _ else _) = _; rw [if_neg c380005]; rw [if_neg (fun q => q.elim (fun z => z (by have k9 := c380088; simp only [sx380087, ev380080, ev380083] at k9; exact k9)) (by have k9 := c380092; simp only [sx380091, ev380080] at k9; exact k9))]; rw [if_neg (fun q => q.1 c380093)]; rw [hk9, hg9, hfu]; show (match fD _ _ _ with | none => _ | some q => _) = _; rw [hfd]; show (if _ then _ else _) = _; rw [if_pos c380105]; rw [if_neg (by have k9 := c380109; simp only [hir380106] at k9; exact k9)]; have ha9 : v380133 = σ.2.1 (5 * xp.toNatClampNeg + n380077) 2 := (by rw [ev380133, sx380132, esg380130, oRi_g (by decide)]; simp only [esg380124, sx380117, ev380080, ev380083]; rw [oAd_e]; exact Int32.add_sub_cancel _ _); rw [ha9]; refine Prod.ext ?_ rfl; show oPr _ _ _ _ _ _ _ _ = _; have hxp9 : nI xp.toNatClampNeg = xp := (xnI hth380004.1 (by decide)).symm; rw [oPr, if_neg (fun q => absurd q.2 (by have k9 := c380114; simp only [sx380113] at k9; exact k9)), if_neg (by have h9 := vp_in_iff.mp hin380081; rw [xk_lt, xk_0]; omega)]; rw [esg380130]; simp only [esg380124, sx380117, ev380080, ev380083, hxp9] <;> rfl); show MR w I380127 J380127 _; rw [e9]; exact hMR, by have e9 : qPr σ xp xh xs xk xv al = (sg380130, v380133) := (by have hk9 : xh - xh / 8 * 8 = v380080 := (by simp only [ev380080]); have hg9 : xh / 8 = v380083 := (by simp only [ev380083]); rw [qPr, if_neg (by have k9 := c380003; simp only [hir380001] at k9; exact k9), if_neg (fun q => c380073 q.2), oqn380077]; show (if _ then _ else _) = _; rw [if_neg c380005]; rw [if_neg (fun q => q.elim (fun z => z (by have k9 := c380088; simp only [sx380087, ev380080, ev380083] at k9; exact k9)) (by have k9 := c380092; simp only [sx380091, ev380080] at k9; exact k9))]; rw [if_neg (fun q => q.1 c380093)]; rw [hk9, hg9, hfu]; show (match fD _ _ _ with | none => _ | some q => _) = _; rw [hfd]; show (if _ then _ else _) = _; rw [if_pos c380105]; rw [if_neg (by have k9 := c380109; simp only [hir380106] at k9; exact k9)]; have ha9 : v380133 = σ.2.1 (5 * xp.toNatClampNeg + n380077) 2 := (by rw [ev380133, sx380132, esg380130, oRi_g (by decide)]; simp only [esg380124, sx380117, ev380080, ev380083]; rw [oAd_e]; exact Int32.add_sub_cancel _ _); rw [ha9]; refine Prod.ext ?_ rfl; show oPr _ _ _ _ _ _ _ _ = _; have hxp9 : nI xp.toNatClampNeg = xp := (xnI hth380004.1 (by decide)).symm; rw [oPr, if_neg (fun q => absurd q.2 (by have k9 := c380114; simp only [sx380113] at k9; exact k9)), if_neg (by have h9 := vp_in_iff.mp hin380081; rw [xk_lt, xk_0]; omega)]; rw [esg380130]; simp only [esg380124, sx380117, ev380080, ev380083, hxp9] <;> rfl); show _ = _; rw [e9]⟩, by rw [ht]; exact hP, va_K.moved hW.alike hK, hD⟩, hS.F ht⟩) hS.2.2 dX7_produce_347
                            · have kc380114 : x380113.toInt = 1 := by have h9 := c380114; rw [xk_eq, xk_1] at h9; exact h9
                              refine lv_iconst (v := 1) hx hb dX7_produce_270 (by decide) ?_
                              refine lv_goto (tgt := 275) hx hb dX7_produce_271 (by decide) ?_
                              refine lv_istore (lv' := [(10, .int 1), (11, .int y380098), (9, .int v380083), (8, .int v380080), (7, .ref (w (21 + (5 * xp.toNatClampNeg + n380077)))), (0, .ref (w 0)), (1, .int xp), (2, .int xh), (3, .int xs), (4, .int xk), (5, .int xv), (6, .int al)]) hx hb dX7_produce_275 hl (by decide) rfl (fun ls hl => ?_)
                              refine lv_aload hx hb dX7_produce_277 (lv_at hl 4 rfl) ?_
                              refine lv_aload_n hx hb dX7_produce_279 rfl (lv_at hl 5 rfl) ?_
                              obtain ⟨j380134, hj380134⟩ := wG_7 (cy := cy) (N := N) (T := T) (I := I) (Q := Q) (J := J) (hM.at 0 (by decide)) (hM.k 0 (by decide) rfl)
                              refine va_get (D := (dC, dI)) (ci := 7) (v := .ref (T (w 0) 4)) (C := RX7) (T := TX7) (N := 18) hx hb hts hi7 hown hK hP j380134 hj380134 rfl 4 (by decide) (hts (.fieldLink RX7 25 "TallyLogsModel" "epoch" "[I") (by decide +kernel)) (fun _ h9 => h9) rfl dX7_produce_280 ?_
                              refine W.eq (g2 := F0 m 283 ls [.ref (w 5), .ref (w (21 + (5 * xp.toNatClampNeg + n380077)))]) (by rw [hM.t 4 (by decide)]) ?_
                              refine lv_iload_n hx hb dX7_produce_283 rfl (lv_at hl 6 rfl) ?_
                              obtain ⟨j380135, hj380135⟩ := wG_20 (cy := cy) (N := N) (T := T) (I := I) (Q := Q) (J := J) (hM.at 5 (by decide)) (hM.k 5 (by decide) rfl)
                              refine va_iald hx hb hK hP j380135 1 hj380135 rfl (hM.inN (n := 4) 5 (by decide) rfl rfl hth380004.1) dX7_produce_284 ?_
                              refine lv_topi (fun x380136 ex380136 => ?_)
                              have sx380136 : x380136 = σ.1 5 xp.toNatClampNeg := ex380136.trans (hMR.a (k := 5) (by decide) (by decide) (show _ < 4 from vp_lt (n := 4) hth380004.1))
                              refine lv_iconst (v := 0) hx hb dX7_produce_285 (by decide) ?_
                              refine lv_iload hx hb dX7_produce_286 (lv_at hl 3 rfl) ?_
                              refine lv_iload hx hb dX7_produce_288 (lv_at hl 2 rfl) ?_
                              refine lv_iload hx hb dX7_produce_290 (lv_at hl 3 rfl) ?_
                              refine lv_if_ge (tgt := 299) hx hb dX7_produce_292 (by decide) (fun c380137 => ?_) (fun c380137 => ?_)
                              rotate_left
                              · exact absurd ((xk_le _ _).mpr (by rw [xk_0]; have h9 := vp_in_iff.mp hin380081; omega)) c380137
                              refine lv_iload_n hx hb dX7_produce_299 rfl (lv_at hl 8 rfl) ?_
                              refine lv_iload hx hb dX7_produce_300 (lv_at hl 9 rfl) ?_
                              refine lv_iload hx hb dX7_produce_302 (lv_at hl 10 rfl) ?_
                              refine lv_iload hx hb dX7_produce_304 (lv_at hl 0 rfl) ?_
                              refine lv_if_eq (tgt := 313) hx hb dX7_produce_306 (by decide) (fun c380138 => ?_) (fun c380138 => ?_)
                              · exact absurd c380138 (by decide)
                              refine lv_iconst (v := 1) hx hb dX7_produce_309 (by decide) ?_
                              refine lv_goto (tgt := 314) hx hb dX7_produce_310 (by decide) ?_
                              obtain ⟨j380139, hj380139⟩ := wG_6 (cy := cy) (N := N) (T := T) (I := I) (Q := Q) (J := J) (hM.lg hjn380077).1 (hM.lg hjn380077).2
                              have hFc := pfree hD hS hA
                              refine va_callv (va_runV (As := [.int x380136, .int 0, .int v380080, .int v380083, .int xs, .int xk, .int xv, .int 1]) (rest := []) ⟨hx, hb, hml, hown, hts⟩ (f_X6_add l dC dI cy w L K N T Q I J s.heap.size (5 * xp.toNatClampNeg + n380077) x380136 0 v380080 v380083 xs xk xv 1 σ hM hjn380077 (by omega) (by omega) (by omega) (by omega) hMR) (cwV 8 hts gX7_produce_X6_add rfl rfl rfl (by decide +kernel) ⟨Nat.le_of_ble_eq_true rfl, Nat.le_of_ble_eq_true rfl⟩) ⟨mw_blind, va_recv hK hP (ci := 6) (q0 := j380139) rfl hj380139, fun U hU hW => ⟨rfl, mw_pre hP hK hD hU hW⟩⟩ rfl rfl hl.1 rfl (lv_room (Nat.le_of_ble_eq_true rfl)) dX7_produce_314 ⟨Nat.le_of_ble_eq_true rfl, Nat.le_of_ble_eq_true rfl⟩) hS (fun q _ h => hFc q h) hFc (fun d9 t H1 locs ht hvm hw hB hz1 hk1 hS => ?_)
                              obtain ⟨I380140, J380140⟩ := d9
                              obtain ⟨hP, hK1, hD1⟩ := hB
                              rw [ht] at hP
                              have hD := hD1.weaken (fun _ _ _ h => hFc _ h)
                              generalize H1 = H at hP hS ⊢
                              have hP : va_P (dC, dI) vwCl (va_pl L (wF cy K N T I380140 Q J380140)) H := hP
                              have hD : va_D A (va_pl L (wF cy K N T I380140 Q J380140)) := hD
                              have hMRn := hw.1
                              have hw := hw.2
                              have hw380142 : LW w I J I380140 J380140 (5 * xp.toNatClampNeg + n380077) _ _ := hw
                              have hR : RM w [] I J I380140 J380140 := hR.lw hM hjn380077 hw380142
                              have hMD : MD w J380140 := hMD.lw hM hjn380077 hw380142
                              have hMU : MU w I380140 := hMU.lw hM hjn380077 hw380142
                              have q1hw380142 : (I380140 (w (21 + (5 * xp.toNatClampNeg + n380077))) 1).toInt = _ := hw380142.2.2.1
                              have q2hw380142 : (I380140 (w (21 + (5 * xp.toNatClampNeg + n380077))) 2).toInt = _ := hw380142.2.2.2
                              have q3hw380142 : (I380140 (w (21 + (5 * xp.toNatClampNeg + n380077))) 3).toInt = _ := congrArg Int32.toInt hw380142.f3
                              have q4hw380142 : (I380140 (w (21 + (5 * xp.toNatClampNeg + n380077))) 4).toInt = _ := congrArg Int32.toInt hw380142.f4
                              have hML : ML w (E + 1) I380140 := hML.lw hM hjn380077 hw380142 (by omega) ⟨by omega, by omega, by omega, by omega, by omega, by omega⟩
                              obtain ⟨sg380143, esg380143⟩ : ∃ z, z = oAd σ (5 * xp.toNatClampNeg + n380077) (r8 x380136 0 v380080 v380083 xs xk xv 1) := ⟨_, rfl⟩
                              have hMR : MR w I380140 J380140 sg380143 := by rw [esg380143]; exact hMRn
                              refine lv_iload hx hb dX7_produce_317 (lv_at hl 0 rfl) ?_
                              refine lv_if_eq (tgt := 335) hx hb dX7_produce_319 (by decide) (fun c380144 => ?_) (fun c380144 => ?_)
                              · exact absurd c380144 (by decide)
                              refine lv_aload_n hx hb dX7_produce_322 rfl (lv_at hl 5 rfl) ?_
                              obtain ⟨j380145, hj380145⟩ := wG_7 (cy := cy) (N := N) (T := T) (I := I380140) (Q := Q) (J := J380140) (hM.at 0 (by decide)) (hM.k 0 (by decide) rfl)
                              refine va_get (D := (dC, dI)) (ci := 7) (v := .ref (T (w 0) 9)) (C := RX7) (T := TX7) (N := 18) hx hb hts hi7 hown hK hP j380145 hj380145 rfl 9 (by decide) (hts (.fieldLink RX7 40 "TallyLogsModel" "bound" "[I") (by decide +kernel)) (fun _ h9 => h9) rfl dX7_produce_323 ?_
                              refine W.eq (g2 := F0 m 326 ls [.ref (w 10)]) (by rw [hM.t 9 (by decide)]) ?_
                              refine lv_iload hx hb dX7_produce_326 (lv_at hl 3 rfl) ?_
                              refine lv_dup2_11 hx hb dX7_produce_328 rfl rfl ?_
                              obtain ⟨j380146, hj380146⟩ := wG_20 (cy := cy) (N := N) (T := T) (I := I380140) (Q := Q) (J := J380140) (hM.at 10 (by decide)) (hM.k 10 (by decide) rfl)
                              refine va_iald hx hb hK hP j380146 1 hj380146 rfl (hM.inN (n := 6) 10 (by decide) rfl rfl hin380081) dX7_produce_329 ?_
                              refine lv_topi (fun x380147 ex380147 => ?_)
                              have sx380147 : x380147 = sg380143.1 10 v380080.toNatClampNeg := ex380147.trans (hMR.a (k := 10) (by decide) (by decide) (show _ < 6 from vp_lt (n := 6) hin380081))
                              refine lv_iconst (v := 1) hx hb dX7_produce_330 (by decide) ?_
                              refine lv_iload_n hx hb dX7_produce_331 rfl (lv_at hl 6 rfl) ?_
                              refine lv_ishl hx hb dX7_produce_332 ?_
                              refine lv_topi (fun v380148 ev380148 => ?_)
                              refine lv_ior hx hb dX7_produce_333 ?_
                              refine lv_topi (fun v380149 ev380149 => ?_)
                              obtain ⟨j380150, hj380150⟩ := wG_20 (cy := cy) (N := N) (T := T) (I := I380140) (Q := Q) (J := J380140) (hM.at 10 (by decide)) (hM.k 10 (by decide) rfl)
                              have hDo := hD
                              refine va_iast (x := v380149) hx hb hK hP hD hS j380150 1 hj380150 rfl (hM.inN (n := 6) 10 (by decide) rfl rfl hin380081) dX7_produce_334 (fun H locs hP hD hS => ?_)
                              have hP := Eq.mp (congrArg (fun w => va_P (dC, dI) vwCl w H) (wS_20 hDo (hM.at 10 (by decide)) (hM.k 10 (by decide) rfl) hj380150)) hP
                              obtain ⟨J380151, eJ380151⟩ : ∃ z, z = va_up J380140 (w 10) (upd (J380140 (w 10)) v380080.toNatClampNeg v380149) := ⟨_, rfl⟩
                              rw [← eJ380151] at hP
                              have hR : RM w [] I J I380140 J380151 := by rw [eJ380151]; exact hR.pj hM (by decide) (by decide)
                              have hMD : MD w J380151 := by rw [eJ380151]; exact hMD.pj hM (by decide) (by decide)
                              have hD : va_D A (va_pl L (wF cy K N T I380140 Q J380151)) := pD hDo
                              obtain ⟨sg380152, esg380152⟩ : ∃ z, z = sA sg380143 10 v380080.toNatClampNeg v380149 := ⟨_, rfl⟩
                              have hMR : MR w I380140 J380151 sg380152 := by rw [eJ380151, esg380152]; exact hMR.wa hM (by decide) (by decide)
                              refine lv_aload_n hx hb dX7_produce_335 rfl (lv_at hl 5 rfl) ?_
                              refine lv_iload_n hx hb dX7_produce_336 rfl (lv_at hl 6 rfl) ?_
                              obtain ⟨j380153, hj380153⟩ := wG_7 (cy := cy) (N := N) (T := T) (I := I380140) (Q := Q) (J := J380151) (hM.at 0 (by decide)) (hM.k 0 (by decide) rfl)
                              have hFc := pfree hD hS hA
                              refine va_callv (va_runV (As := [.int xp]) (rest := []) ⟨hx, hb, hml, hown, hts⟩ (f_X7_rise l dC dI cy w L K N T Q I380140 J380151 H.size xp sg380152 hM hth380004.1 (hMD _ (vp_lt (n := 4) hth380004.1)) hMR) (cwV 1 hts gX7_produce_X7_rise rfl rfl rfl (by decide +kernel) ⟨Nat.le_of_ble_eq_true rfl, Nat.le_of_ble_eq_true rfl⟩) ⟨mw_blind, va_recv hK hP (ci := 7) (q0 := j380153) rfl hj380153, fun U hU hW => ⟨rfl, mw_pre hP hK hD hU hW⟩⟩ rfl rfl hl.1 rfl (lv_room (Nat.le_of_ble_eq_true rfl)) dX7_produce_337 ⟨Nat.le_of_ble_eq_true rfl, Nat.le_of_ble_eq_true rfl⟩) hS (fun q _ h => hFc q h) hFc (fun d9 t H1 locs ht hvm hw hB hz1 hk1 hS => ?_)
                              obtain ⟨I380154, J380154⟩ := d9
                              obtain ⟨hP, hK1, hD1⟩ := hB
                              rw [ht] at hP
                              have hD := hD1.weaken (fun _ _ _ h => hFc _ h)
                              generalize H1 = H at hP hS ⊢
                              have hP : va_P (dC, dI) vwCl (va_pl L (wF cy K N T I380154 Q J380154)) H := hP
                              have hD : va_D A (va_pl L (wF cy K N T I380154 Q J380154)) := hD
                              have hMRn := hw.1
                              have hw := hw.2
                              have hw380156 : RZ w I380140 J380151 I380154 J380154 xp.toNatClampNeg := hw
                              have hR : RM w [] I J I380154 J380154 := hR.rz hM (vp_lt (n := 4) hth380004.1) hw380156
                              have hMD : MD w J380154 := hMD.rz hw380156
                              have hMU : MU w I380154 := hMU.rz hM (vp_lt (n := 4) hth380004.1) hw380156
                              have hML : ML w (E + 1) I380154 := hML.rz hM (vp_lt (n := 4) hth380004.1) hw380156
                              obtain ⟨sg380157, esg380157⟩ : ∃ z, z = oRi sg380152 xp.toNatClampNeg := ⟨_, rfl⟩
                              have hMR : MR w I380154 J380154 sg380157 := by rw [esg380157]; exact hMRn
                              refine lv_aload hx hb dX7_produce_340 (lv_at hl 4 rfl) ?_
                              obtain ⟨j380158, hj380158⟩ := wG_6 (cy := cy) (N := N) (T := T) (I := I380154) (Q := Q) (J := J380154) (hM.lg hjn380077).1 (hM.lg hjn380077).2
                              refine va_get (D := (dC, dI)) (ci := 6) (v := .int (I380154 (w (21 + (5 * xp.toNatClampNeg + n380077))) 2)) (C := RX6) (T := TX6) (N := 7) hx hb hts hi6 hown hK hP j380158 hj380158 rfl 2 (by decide) (hts (.fieldLink RX7 89 "TallyLogsModel$Log" "end" "I") (by decide +kernel)) (fun _ h9 => h9) rfl dX7_produce_342 ?_
                              refine lv_topi (fun x380159 ex380159 => ?_)
                              have sx380159 : x380159 = sg380157.2.1 (5 * xp.toNatClampNeg + n380077) 2 := ex380159.trans (hMR.g hjn380077 (by decide) (by decide))
                              have tx380159 : x380159.toInt = (I380154 (w (21 + (5 * xp.toNatClampNeg + n380077))) 2).toInt := congrArg Int32.toInt ex380159
                              refine lv_iconst (v := 1) hx hb dX7_produce_345 (by decide) ?_
                              refine lv_isub hx hb dX7_produce_346 ?_
                              refine lv_topi (fun v380160 ev380160 => ?_)
                              rw [hQz]
                              exact W.iret (v := v380160) hx hb hr (fun t ht hW => ⟨⟨v380160, (I380154, J380154), rfl, ⟨⟨hML.mono (by omega), hMD, hMU⟩, by have e9 : qPr σ xp xh xs xk xv al = (sg380157, v380160) := (by have hk9 : xh - xh / 8 * 8 = v380080 := (by simp only [ev380080]); have hg9 : xh / 8 = v380083 := (by simp only [ev380083]); rw [qPr, if_neg (by have k9 := c380003; simp only [hir380001] at k9; exact k9), if_neg (fun q => c380073 q.2), oqn380077]; show (if _ then _ else _) = _; rw [if_neg c380005]; rw [if_neg (fun q => q.elim (fun z => z (by have k9 := c380088; simp only [sx380087, ev380080, ev380083] at k9; exact k9)) (by have k9 := c380092; simp only [sx380091, ev380080] at k9; exact k9))]; rw [if_neg (fun q => q.1 c380093)]; rw [hk9, hg9, hfu]; show (match fD _ _ _ with | none => _ | some q => _) = _; rw [hfd]; show (if _ then _ else _) = _; rw [if_pos c380105]; rw [if_neg (by have k9 := c380109; simp only [hir380106] at k9; exact k9)]; have ha9 : v380160 = σ.2.1 (5 * xp.toNatClampNeg + n380077) 2 := (by rw [ev380160, sx380159, esg380157, oRi_g (by decide)]; simp only [esg380152, ev380080, ev380149, sx380147, ev380148, esg380143, sx380136, ev380083]; rw [sA_2, oAd_e]; exact Int32.add_sub_cancel _ _); rw [ha9]; refine Prod.ext ?_ rfl; show oPr _ _ _ _ _ _ _ _ = _; have hxp9 : nI xp.toNatClampNeg = xp := (xnI hth380004.1 (by decide)).symm; rw [oPr, if_pos ⟨(by have h9 := vp_in_iff.mp hin380081; rw [xk_lt, xk_0]; omega), (by have k9 := c380114; simp only [sx380113] at k9; exact k9)⟩]; rw [esg380157]; simp only [esg380152, ev380080, ev380149, sx380147, ev380148, esg380143, sx380136, ev380083, hxp9] <;> rfl); show MR w I380154 J380154 _; rw [e9]; exact hMR, by have e9 : qPr σ xp xh xs xk xv al = (sg380157, v380160) := (by have hk9 : xh - xh / 8 * 8 = v380080 := (by simp only [ev380080]); have hg9 : xh / 8 = v380083 := (by simp only [ev380083]); rw [qPr, if_neg (by have k9 := c380003; simp only [hir380001] at k9; exact k9), if_neg (fun q => c380073 q.2), oqn380077]; show (if _ then _ else _) = _; rw [if_neg c380005]; rw [if_neg (fun q => q.elim (fun z => z (by have k9 := c380088; simp only [sx380087, ev380080, ev380083] at k9; exact k9)) (by have k9 := c380092; simp only [sx380091, ev380080] at k9; exact k9))]; rw [if_neg (fun q => q.1 c380093)]; rw [hk9, hg9, hfu]; show (match fD _ _ _ with | none => _ | some q => _) = _; rw [hfd]; show (if _ then _ else _) = _; rw [if_pos c380105]; rw [if_neg (by have k9 := c380109; simp only [hir380106] at k9; exact k9)]; have ha9 : v380160 = σ.2.1 (5 * xp.toNatClampNeg + n380077) 2 := (by rw [ev380160, sx380159, esg380157, oRi_g (by decide)]; simp only [esg380152, ev380080, ev380149, sx380147, ev380148, esg380143, sx380136, ev380083]; rw [sA_2, oAd_e]; exact Int32.add_sub_cancel _ _); rw [ha9]; refine Prod.ext ?_ rfl; show oPr _ _ _ _ _ _ _ _ = _; have hxp9 : nI xp.toNatClampNeg = xp := (xnI hth380004.1 (by decide)).symm; rw [oPr, if_pos ⟨(by have h9 := vp_in_iff.mp hin380081; rw [xk_lt, xk_0]; omega), (by have k9 := c380114; simp only [sx380113] at k9; exact k9)⟩]; rw [esg380157]; simp only [esg380152, ev380080, ev380149, sx380147, ev380148, esg380143, sx380136, ev380083, hxp9] <;> rfl); show _ = _; rw [e9]⟩, by rw [ht]; exact hP, va_K.moved hW.alike hK, hD⟩, hS.F ht⟩) hS.2.2 dX7_produce_347
                          · have kc380109 : r380106.toInt = 60 := by have h9 := c380109; rw [xk_eq, (show (60 : Int32).toInt = 60 by decide)] at h9; exact h9
                            refine lv_bipush (v := (-3)) hx hb dX7_produce_251 (by decide) ?_
                            rw [hQz]
                            exact W.iret (v := (-3)) hx hb hr (fun t ht hW => ⟨⟨(-3), (I, J), rfl, ⟨⟨hML.mono (by omega), hMD, hMU⟩, by have e9 : qPr σ xp xh xs xk xv al = (σ, (-3)) := (by have hk9 : xh - xh / 8 * 8 = v380080 := (by simp only [ev380080]); have hg9 : xh / 8 = v380083 := (by simp only [ev380083]); rw [qPr, if_neg (by have k9 := c380003; simp only [hir380001] at k9; exact k9), if_neg (fun q => c380073 q.2), oqn380077]; show (if _ then _ else _) = _; rw [if_neg c380005]; rw [if_neg (fun q => q.elim (fun z => z (by have k9 := c380088; simp only [sx380087, ev380080, ev380083] at k9; exact k9)) (by have k9 := c380092; simp only [sx380091, ev380080] at k9; exact k9))]; rw [if_neg (fun q => q.1 c380093)]; rw [hk9, hg9, hfu]; show (match fD _ _ _ with | none => _ | some q => _) = _; rw [hfd]; show (if _ then _ else _) = _; rw [if_pos c380105]; rw [if_pos (by have k9 := c380109; simp only [hir380106] at k9; exact k9)]); show MR w I J _; rw [e9]; exact hMR, by have e9 : qPr σ xp xh xs xk xv al = (σ, (-3)) := (by have hk9 : xh - xh / 8 * 8 = v380080 := (by simp only [ev380080]); have hg9 : xh / 8 = v380083 := (by simp only [ev380083]); rw [qPr, if_neg (by have k9 := c380003; simp only [hir380001] at k9; exact k9), if_neg (fun q => c380073 q.2), oqn380077]; show (if _ then _ else _) = _; rw [if_neg c380005]; rw [if_neg (fun q => q.elim (fun z => z (by have k9 := c380088; simp only [sx380087, ev380080, ev380083] at k9; exact k9)) (by have k9 := c380092; simp only [sx380091, ev380080] at k9; exact k9))]; rw [if_neg (fun q => q.1 c380093)]; rw [hk9, hg9, hfu]; show (match fD _ _ _ with | none => _ | some q => _) = _; rw [hfd]; show (if _ then _ else _) = _; rw [if_pos c380105]; rw [if_pos (by have k9 := c380109; simp only [hir380106] at k9; exact k9)]); show _ = _; rw [e9]⟩, by rw [ht]; exact hP, va_K.moved hW.alike hK, hD⟩, hS.F ht⟩) hS.2.2 dX7_produce_253
                        · have kc380105 : ¬ (xs.toInt = 0) := by have h9 := c380105; rw [xk_eq, xk_0] at h9; exact h9
                          refine lv_goto (tgt := 238) hx hb dX7_produce_221 (by decide) ?_
                          refine lv_bipush (v := (-6)) hx hb dX7_produce_238 (by decide) ?_
                          rw [hQz]
                          exact W.iret (v := (-6)) hx hb hr (fun t ht hW => ⟨⟨(-6), (I, J), rfl, ⟨⟨hML.mono (by omega), hMD, hMU⟩, by have e9 : qPr σ xp xh xs xk xv al = (σ, (-6)) := (by have hk9 : xh - xh / 8 * 8 = v380080 := (by simp only [ev380080]); have hg9 : xh / 8 = v380083 := (by simp only [ev380083]); rw [qPr, if_neg (by have k9 := c380003; simp only [hir380001] at k9; exact k9), if_neg (fun q => c380073 q.2), oqn380077]; show (if _ then _ else _) = _; rw [if_neg c380005]; rw [if_neg (fun q => q.elim (fun z => z (by have k9 := c380088; simp only [sx380087, ev380080, ev380083] at k9; exact k9)) (by have k9 := c380092; simp only [sx380091, ev380080] at k9; exact k9))]; rw [if_neg (fun q => q.1 c380093)]; rw [hk9, hg9, hfu]; show (match fD _ _ _ with | none => _ | some q => _) = _; rw [hfd]; show (if _ then _ else _) = _; rw [if_neg c380105]); show MR w I J _; rw [e9]; exact hMR, by have e9 : qPr σ xp xh xs xk xv al = (σ, (-6)) := (by have hk9 : xh - xh / 8 * 8 = v380080 := (by simp only [ev380080]); have hg9 : xh / 8 = v380083 := (by simp only [ev380083]); rw [qPr, if_neg (by have k9 := c380003; simp only [hir380001] at k9; exact k9), if_neg (fun q => c380073 q.2), oqn380077]; show (if _ then _ else _) = _; rw [if_neg c380005]; rw [if_neg (fun q => q.elim (fun z => z (by have k9 := c380088; simp only [sx380087, ev380080, ev380083] at k9; exact k9)) (by have k9 := c380092; simp only [sx380091, ev380080] at k9; exact k9))]; rw [if_neg (fun q => q.1 c380093)]; rw [hk9, hg9, hfu]; show (match fD _ _ _ with | none => _ | some q => _) = _; rw [hfd]; show (if _ then _ else _) = _; rw [if_neg c380105]); show _ = _; rw [e9]⟩, by rw [ht]; exact hP, va_K.moved hW.alike hK, hD⟩, hS.F ht⟩) hS.2.2 dX7_produce_240
                      | some q380103 =>
                        rw [hfd] at hla
                        have hla : y380099 = nI q380103 := hla
                        have hqb := (fD_lt hfd).2.1
                        have hqz := hMR.eqe (y := y380098) hjn380077 (by omega)
                        have hqy := hMR.leb (y := y380098) hjn380077 (by omega)
                        have hqc := clT y380098
                        have hqi : (nI q380103).toInt = (q380103 : Int) := nI_toInt (by omega)
                        have hqt := congrArg Int32.toInt hla
                        refine lv_iload hx hb dX7_produce_212 (lv_at hl 1 rfl) ?_
                        refine lv_if_ge (tgt := 224) hx hb dX7_produce_214 (by decide) (fun c380161 => ?_) (fun c380161 => ?_)
                        rotate_left
                        · exact absurd (by rw [xk_le, xk_0]; omega) c380161
                        refine lv_iload_n hx hb dX7_produce_224 rfl (lv_at hl 8 rfl) ?_
                        refine lv_aload hx hb dX7_produce_225 (lv_at hl 4 rfl) ?_
                        refine lv_iload hx hb dX7_produce_227 (lv_at hl 1 rfl) ?_
                        refine lv_iconst (v := 4) hx hb dX7_produce_229 (by decide) ?_
                        obtain ⟨j380163, hj380163⟩ := wG_6 (cy := cy) (N := N) (T := T) (I := I) (Q := Q) (J := J) (hM.lg hjn380077).1 (hM.lg hjn380077).2
                        refine vp_callSi (W.runV (As := [.int y380099, .int 4]) (rest := [.int xs]) ⟨hx, hb, hml, hown, hts⟩ (f_X6_get l dC dI cy w L K N T Q I J (5 * xp.toNatClampNeg + n380077) y380099 4 σ hM hjn380077 (by omega) (by omega) (by omega) (by omega) (by unfold vp_in; decide) hMR) (cwV 2 hts gX7_produce_X6_get rfl rfl rfl (by decide +kernel) ⟨Nat.le_of_ble_eq_true rfl, Nat.le_of_ble_eq_true rfl⟩) ⟨mb_blind, va_recv hK hP (ci := 6) (q0 := j380163) rfl hj380163, fun U hU hW => ⟨rfl, mb_pre hP hK hU hW⟩⟩ rfl rfl hl.1 rfl (lv_room (Nat.le_of_ble_eq_true rfl)) dX7_produce_230 ⟨Nat.le_of_ble_eq_true rfl, Nat.le_of_ble_eq_true rfl⟩) (fun r380162 hr380162 => ?_)
                        rw [show (4 : Int32).toNatClampNeg = 4 by decide] at hr380162
                        refine lv_iconst (v := 1) hx hb dX7_produce_233 (by decide) ?_
                        refine lv_iadd hx hb dX7_produce_234 ?_
                        refine lv_topi (fun v380164 ev380164 => ?_)
                        refine lv_icmp_eq (tgt := 241) hx hb dX7_produce_235 (by decide) (fun c380165 => ?_) (fun c380165 => ?_)
                        · have kc380165 : xs.toInt = v380164.toInt := by have h9 := c380165; rw [xk_eq] at h9; exact h9
                          refine lv_aload hx hb dX7_produce_241 (lv_at hl 4 rfl) ?_
                          obtain ⟨j380167, hj380167⟩ := wG_6 (cy := cy) (N := N) (T := T) (I := I) (Q := Q) (J := J) (hM.lg hjn380077).1 (hM.lg hjn380077).2
                          refine vp_callSi (W.runV (As := []) (rest := []) ⟨hx, hb, hml, hown, hts⟩ (c_X6_many l dC dI cy w L K N T Q I J (5 * xp.toNatClampNeg + n380077) hM hjn380077) (cwV 0 hts gX7_produce_X6_many rfl rfl rfl (by decide +kernel) ⟨Nat.le_of_ble_eq_true rfl, Nat.le_of_ble_eq_true rfl⟩) ⟨mb_blind, va_recv hK hP (ci := 6) (q0 := j380167) rfl hj380167, fun U hU hW => ⟨rfl, mb_pre hP hK hU hW⟩⟩ rfl rfl hl.1 rfl (lv_room (Nat.le_of_ble_eq_true rfl)) dX7_produce_243 ⟨Nat.le_of_ble_eq_true rfl, Nat.le_of_ble_eq_true rfl⟩) (fun r380166 hr380166 => ?_)
                          obtain ⟨ha380168, hb380168, hc380168, hd380168, he380168, hf380168⟩ := hML (5 * xp.toNatClampNeg + n380077) hjn380077
                          have tr380166 : r380166.toInt = (I (w (21 + (5 * xp.toNatClampNeg + n380077))) 2).toInt - (I (w (21 + (5 * xp.toNatClampNeg + n380077))) 1).toInt := by rw [hr380166]; exact xsub (by omega) (by omega)
                          have hir380166 : r380166 = σ.2.1 (5 * xp.toNatClampNeg + n380077) 2 - σ.2.1 (5 * xp.toNatClampNeg + n380077) 1 := by rw [hr380166, hMR.g hjn380077 (by decide) (by decide), hMR.g hjn380077 (by decide) (by decide)]
                          refine lv_bipush (v := 60) hx hb dX7_produce_246 (by decide) ?_
                          refine lv_icmp_ne (tgt := 254) hx hb dX7_produce_248 (by decide) (fun c380169 => ?_) (fun c380169 => ?_)
                          · have kc380169 : ¬ (r380166.toInt = 60) := by have h9 := c380169; rw [xk_eq, (show (60 : Int32).toInt = 60 by decide)] at h9; exact h9
                            refine lv_iload hx hb dX7_produce_254 (lv_at hl 3 rfl) ?_
                            refine lv_if_lt (tgt := 274) hx hb dX7_produce_256 (by decide) (fun c380170 => ?_) (fun c380170 => ?_)
                            · exact absurd ((xk_lt _ _).mp c380170) (by rw [xk_0]; have h9 := vp_in_iff.mp hin380081; omega)
                            refine lv_aload_n hx hb dX7_produce_259 rfl (lv_at hl 5 rfl) ?_
                            obtain ⟨j380171, hj380171⟩ := wG_7 (cy := cy) (N := N) (T := T) (I := I) (Q := Q) (J := J) (hM.at 0 (by decide)) (hM.k 0 (by decide) rfl)
                            refine va_get (D := (dC, dI)) (ci := 7) (v := .ref (T (w 0) 8)) (C := RX7) (T := TX7) (N := 18) hx hb hts hi7 hown hK hP j380171 hj380171 rfl 8 (by decide) (hts (.fieldLink RX7 37 "TallyLogsModel" "mode" "[I") (by decide +kernel)) (fun _ h9 => h9) rfl dX7_produce_260 ?_
                            refine W.eq (g2 := F0 m 263 ls [.ref (w 9)]) (by rw [hM.t 8 (by decide)]) ?_
                            refine lv_iload hx hb dX7_produce_263 (lv_at hl 3 rfl) ?_
                            obtain ⟨j380172, hj380172⟩ := wG_20 (cy := cy) (N := N) (T := T) (I := I) (Q := Q) (J := J) (hM.at 9 (by decide)) (hM.k 9 (by decide) rfl)
                            refine va_iald hx hb hK hP j380172 1 hj380172 rfl (hM.inN (n := 6) 9 (by decide) rfl rfl hin380081) dX7_produce_265 ?_
                            refine lv_topi (fun x380173 ex380173 => ?_)
                            have sx380173 : x380173 = σ.1 9 v380080.toNatClampNeg := ex380173.trans (hMR.a (k := 9) (by decide) (by decide) (show _ < 6 from vp_lt (n := 6) hin380081))
                            refine lv_iconst (v := 1) hx hb dX7_produce_266 (by decide) ?_
                            refine lv_icmp_ne (tgt := 274) hx hb dX7_produce_267 (by decide) (fun c380174 => ?_) (fun c380174 => ?_)
                            · have kc380174 : ¬ (x380173.toInt = 1) := by have h9 := c380174; rw [xk_eq, xk_1] at h9; exact h9
                              refine lv_iconst (v := 0) hx hb dX7_produce_274 (by decide) ?_
                              refine lv_istore (lv' := [(10, .int 0), (11, .int y380098), (9, .int v380083), (8, .int v380080), (7, .ref (w (21 + (5 * xp.toNatClampNeg + n380077)))), (0, .ref (w 0)), (1, .int xp), (2, .int xh), (3, .int xs), (4, .int xk), (5, .int xv), (6, .int al)]) hx hb dX7_produce_275 hl (by decide) rfl (fun ls hl => ?_)
                              refine lv_aload hx hb dX7_produce_277 (lv_at hl 4 rfl) ?_
                              refine lv_aload_n hx hb dX7_produce_279 rfl (lv_at hl 5 rfl) ?_
                              obtain ⟨j380175, hj380175⟩ := wG_7 (cy := cy) (N := N) (T := T) (I := I) (Q := Q) (J := J) (hM.at 0 (by decide)) (hM.k 0 (by decide) rfl)
                              refine va_get (D := (dC, dI)) (ci := 7) (v := .ref (T (w 0) 4)) (C := RX7) (T := TX7) (N := 18) hx hb hts hi7 hown hK hP j380175 hj380175 rfl 4 (by decide) (hts (.fieldLink RX7 25 "TallyLogsModel" "epoch" "[I") (by decide +kernel)) (fun _ h9 => h9) rfl dX7_produce_280 ?_
                              refine W.eq (g2 := F0 m 283 ls [.ref (w 5), .ref (w (21 + (5 * xp.toNatClampNeg + n380077)))]) (by rw [hM.t 4 (by decide)]) ?_
                              refine lv_iload_n hx hb dX7_produce_283 rfl (lv_at hl 6 rfl) ?_
                              obtain ⟨j380176, hj380176⟩ := wG_20 (cy := cy) (N := N) (T := T) (I := I) (Q := Q) (J := J) (hM.at 5 (by decide)) (hM.k 5 (by decide) rfl)
                              refine va_iald hx hb hK hP j380176 1 hj380176 rfl (hM.inN (n := 4) 5 (by decide) rfl rfl hth380004.1) dX7_produce_284 ?_
                              refine lv_topi (fun x380177 ex380177 => ?_)
                              have sx380177 : x380177 = σ.1 5 xp.toNatClampNeg := ex380177.trans (hMR.a (k := 5) (by decide) (by decide) (show _ < 4 from vp_lt (n := 4) hth380004.1))
                              refine lv_iconst (v := 0) hx hb dX7_produce_285 (by decide) ?_
                              refine lv_iload hx hb dX7_produce_286 (lv_at hl 3 rfl) ?_
                              refine lv_iload hx hb dX7_produce_288 (lv_at hl 2 rfl) ?_
                              refine lv_iload hx hb dX7_produce_290 (lv_at hl 3 rfl) ?_
                              refine lv_if_ge (tgt := 299) hx hb dX7_produce_292 (by decide) (fun c380178 => ?_) (fun c380178 => ?_)
                              rotate_left
                              · exact absurd ((xk_le _ _).mpr (by rw [xk_0]; have h9 := vp_in_iff.mp hin380081; omega)) c380178
                              refine lv_iload_n hx hb dX7_produce_299 rfl (lv_at hl 8 rfl) ?_
                              refine lv_iload hx hb dX7_produce_300 (lv_at hl 9 rfl) ?_
                              refine lv_iload hx hb dX7_produce_302 (lv_at hl 10 rfl) ?_
                              refine lv_iload hx hb dX7_produce_304 (lv_at hl 0 rfl) ?_
                              refine lv_if_eq (tgt := 313) hx hb dX7_produce_306 (by decide) (fun c380179 => ?_) (fun c380179 => ?_)
                              rotate_left
                              · exact absurd c380179 (by decide)
                              refine lv_iconst (v := 0) hx hb dX7_produce_313 (by decide) ?_
                              obtain ⟨j380180, hj380180⟩ := wG_6 (cy := cy) (N := N) (T := T) (I := I) (Q := Q) (J := J) (hM.lg hjn380077).1 (hM.lg hjn380077).2
                              have hFc := pfree hD hS hA
                              refine va_callv (va_runV (As := [.int x380177, .int 0, .int v380080, .int v380083, .int xs, .int xk, .int xv, .int 0]) (rest := []) ⟨hx, hb, hml, hown, hts⟩ (f_X6_add l dC dI cy w L K N T Q I J s.heap.size (5 * xp.toNatClampNeg + n380077) x380177 0 v380080 v380083 xs xk xv 0 σ hM hjn380077 (by omega) (by omega) (by omega) (by omega) hMR) (cwV 8 hts gX7_produce_X6_add rfl rfl rfl (by decide +kernel) ⟨Nat.le_of_ble_eq_true rfl, Nat.le_of_ble_eq_true rfl⟩) ⟨mw_blind, va_recv hK hP (ci := 6) (q0 := j380180) rfl hj380180, fun U hU hW => ⟨rfl, mw_pre hP hK hD hU hW⟩⟩ rfl rfl hl.1 rfl (lv_room (Nat.le_of_ble_eq_true rfl)) dX7_produce_314 ⟨Nat.le_of_ble_eq_true rfl, Nat.le_of_ble_eq_true rfl⟩) hS (fun q _ h => hFc q h) hFc (fun d9 t H1 locs ht hvm hw hB hz1 hk1 hS => ?_)
                              obtain ⟨I380181, J380181⟩ := d9
                              obtain ⟨hP, hK1, hD1⟩ := hB
                              rw [ht] at hP
                              have hD := hD1.weaken (fun _ _ _ h => hFc _ h)
                              generalize H1 = H at hP hS ⊢
                              have hP : va_P (dC, dI) vwCl (va_pl L (wF cy K N T I380181 Q J380181)) H := hP
                              have hD : va_D A (va_pl L (wF cy K N T I380181 Q J380181)) := hD
                              have hMRn := hw.1
                              have hw := hw.2
                              have hw380183 : LW w I J I380181 J380181 (5 * xp.toNatClampNeg + n380077) _ _ := hw
                              have hR : RM w [] I J I380181 J380181 := hR.lw hM hjn380077 hw380183
                              have hMD : MD w J380181 := hMD.lw hM hjn380077 hw380183
                              have hMU : MU w I380181 := hMU.lw hM hjn380077 hw380183
                              have q1hw380183 : (I380181 (w (21 + (5 * xp.toNatClampNeg + n380077))) 1).toInt = _ := hw380183.2.2.1
                              have q2hw380183 : (I380181 (w (21 + (5 * xp.toNatClampNeg + n380077))) 2).toInt = _ := hw380183.2.2.2
                              have q3hw380183 : (I380181 (w (21 + (5 * xp.toNatClampNeg + n380077))) 3).toInt = _ := congrArg Int32.toInt hw380183.f3
                              have q4hw380183 : (I380181 (w (21 + (5 * xp.toNatClampNeg + n380077))) 4).toInt = _ := congrArg Int32.toInt hw380183.f4
                              have hML : ML w (E + 1) I380181 := hML.lw hM hjn380077 hw380183 (by omega) ⟨by omega, by omega, by omega, by omega, by omega, by omega⟩
                              obtain ⟨sg380184, esg380184⟩ : ∃ z, z = oAd σ (5 * xp.toNatClampNeg + n380077) (r8 x380177 0 v380080 v380083 xs xk xv 0) := ⟨_, rfl⟩
                              have hMR : MR w I380181 J380181 sg380184 := by rw [esg380184]; exact hMRn
                              refine lv_iload hx hb dX7_produce_317 (lv_at hl 0 rfl) ?_
                              refine lv_if_eq (tgt := 335) hx hb dX7_produce_319 (by decide) (fun c380185 => ?_) (fun c380185 => ?_)
                              rotate_left
                              · exact absurd c380185 (by decide)
                              refine lv_aload_n hx hb dX7_produce_335 rfl (lv_at hl 5 rfl) ?_
                              refine lv_iload_n hx hb dX7_produce_336 rfl (lv_at hl 6 rfl) ?_
                              obtain ⟨j380186, hj380186⟩ := wG_7 (cy := cy) (N := N) (T := T) (I := I380181) (Q := Q) (J := J380181) (hM.at 0 (by decide)) (hM.k 0 (by decide) rfl)
                              have hFc := pfree hD hS hA
                              refine va_callv (va_runV (As := [.int xp]) (rest := []) ⟨hx, hb, hml, hown, hts⟩ (f_X7_rise l dC dI cy w L K N T Q I380181 J380181 H.size xp sg380184 hM hth380004.1 (hMD _ (vp_lt (n := 4) hth380004.1)) hMR) (cwV 1 hts gX7_produce_X7_rise rfl rfl rfl (by decide +kernel) ⟨Nat.le_of_ble_eq_true rfl, Nat.le_of_ble_eq_true rfl⟩) ⟨mw_blind, va_recv hK hP (ci := 7) (q0 := j380186) rfl hj380186, fun U hU hW => ⟨rfl, mw_pre hP hK hD hU hW⟩⟩ rfl rfl hl.1 rfl (lv_room (Nat.le_of_ble_eq_true rfl)) dX7_produce_337 ⟨Nat.le_of_ble_eq_true rfl, Nat.le_of_ble_eq_true rfl⟩) hS (fun q _ h => hFc q h) hFc (fun d9 t H1 locs ht hvm hw hB hz1 hk1 hS => ?_)
                              obtain ⟨I380187, J380187⟩ := d9
                              obtain ⟨hP, hK1, hD1⟩ := hB
                              rw [ht] at hP
                              have hD := hD1.weaken (fun _ _ _ h => hFc _ h)
                              generalize H1 = H at hP hS ⊢
                              have hP : va_P (dC, dI) vwCl (va_pl L (wF cy K N T I380187 Q J380187)) H := hP
                              have hD : va_D A (va_pl L (wF cy K N T I380187 Q J380187)) := hD
                              have hMRn := hw.1
                              have hw := hw.2
                              have hw380189 : RZ w I380181 J380181 I380187 J380187 xp.toNatClampNeg := hw
                              have hR : RM w [] I J I380187 J380187 := hR.rz hM (vp_lt (n := 4) hth380004.1) hw380189
                              have hMD : MD w J380187 := hMD.rz hw380189
                              have hMU : MU w I380187 := hMU.rz hM (vp_lt (n := 4) hth380004.1) hw380189
                              have hML : ML w (E + 1) I380187 := hML.rz hM (vp_lt (n := 4) hth380004.1) hw380189
                              obtain ⟨sg380190, esg380190⟩ : ∃ z, z = oRi sg380184 xp.toNatClampNeg := ⟨_, rfl⟩
                              have hMR : MR w I380187 J380187 sg380190 := by rw [esg380190]; exact hMRn
                              refine lv_aload hx hb dX7_produce_340 (lv_at hl 4 rfl) ?_
                              obtain ⟨j380191, hj380191⟩ := wG_6 (cy := cy) (N := N) (T := T) (I := I380187) (Q := Q) (J := J380187) (hM.lg hjn380077).1 (hM.lg hjn380077).2
                              refine va_get (D := (dC, dI)) (ci := 6) (v := .int (I380187 (w (21 + (5 * xp.toNatClampNeg + n380077))) 2)) (C := RX6) (T := TX6) (N := 7) hx hb hts hi6 hown hK hP j380191 hj380191 rfl 2 (by decide) (hts (.fieldLink RX7 89 "TallyLogsModel$Log" "end" "I") (by decide +kernel)) (fun _ h9 => h9) rfl dX7_produce_342 ?_
                              refine lv_topi (fun x380192 ex380192 => ?_)
                              have sx380192 : x380192 = sg380190.2.1 (5 * xp.toNatClampNeg + n380077) 2 := ex380192.trans (hMR.g hjn380077 (by decide) (by decide))
                              have tx380192 : x380192.toInt = (I380187 (w (21 + (5 * xp.toNatClampNeg + n380077))) 2).toInt := congrArg Int32.toInt ex380192
                              refine lv_iconst (v := 1) hx hb dX7_produce_345 (by decide) ?_
                              refine lv_isub hx hb dX7_produce_346 ?_
                              refine lv_topi (fun v380193 ev380193 => ?_)
                              rw [hQz]
                              exact W.iret (v := v380193) hx hb hr (fun t ht hW => ⟨⟨v380193, (I380187, J380187), rfl, ⟨⟨hML.mono (by omega), hMD, hMU⟩, by have e9 : qPr σ xp xh xs xk xv al = (sg380190, v380193) := (by have hk9 : xh - xh / 8 * 8 = v380080 := (by simp only [ev380080]); have hg9 : xh / 8 = v380083 := (by simp only [ev380083]); rw [qPr, if_neg (by have k9 := c380003; simp only [hir380001] at k9; exact k9), if_neg (fun q => c380073 q.2), oqn380077]; show (if _ then _ else _) = _; rw [if_neg c380005]; rw [if_neg (fun q => q.elim (fun z => z (by have k9 := c380088; simp only [sx380087, ev380080, ev380083] at k9; exact k9)) (by have k9 := c380092; simp only [sx380091, ev380080] at k9; exact k9))]; rw [if_neg (fun q => q.1 c380093)]; rw [hk9, hg9, hfu]; show (match fD _ _ _ with | none => _ | some q => _) = _; rw [hfd]; show (if _ then _ else _) = _; rw [if_pos (by have k9 := c380165; rw [ev380164, hr380162, hla, nI_clamp (by omega)] at k9; exact k9)]; rw [if_neg (by have k9 := c380169; simp only [hir380166] at k9; exact k9)]; have ha9 : v380193 = σ.2.1 (5 * xp.toNatClampNeg + n380077) 2 := (by rw [ev380193, sx380192, esg380190, oRi_g (by decide)]; simp only [esg380184, sx380177, ev380080, ev380083]; rw [oAd_e]; exact Int32.add_sub_cancel _ _); rw [ha9]; refine Prod.ext ?_ rfl; show oPr _ _ _ _ _ _ _ _ = _; have hxp9 : nI xp.toNatClampNeg = xp := (xnI hth380004.1 (by decide)).symm; rw [oPr, if_neg (fun q => absurd q.2 (by have k9 := c380174; simp only [sx380173] at k9; exact k9)), if_neg (by have h9 := vp_in_iff.mp hin380081; rw [xk_lt, xk_0]; omega)]; rw [esg380190]; simp only [esg380184, sx380177, ev380080, ev380083, hxp9] <;> rfl); show MR w I380187 J380187 _; rw [e9]; exact hMR, by have e9 : qPr σ xp xh xs xk xv al = (sg380190, v380193) := (by have hk9 : xh - xh / 8 * 8 = v380080 := (by simp only [ev380080]); have hg9 : xh / 8 = v380083 := (by simp only [ev380083]); rw [qPr, if_neg (by have k9 := c380003; simp only [hir380001] at k9; exact k9), if_neg (fun q => c380073 q.2), oqn380077]; show (if _ then _ else _) = _; rw [if_neg c380005]; rw [if_neg (fun q => q.elim (fun z => z (by have k9 := c380088; simp only [sx380087, ev380080, ev380083] at k9; exact k9)) (by have k9 := c380092; simp only [sx380091, ev380080] at k9; exact k9))]; rw [if_neg (fun q => q.1 c380093)]; rw [hk9, hg9, hfu]; show (match fD _ _ _ with | none => _ | some q => _) = _; rw [hfd]; show (if _ then _ else _) = _; rw [if_pos (by have k9 := c380165; rw [ev380164, hr380162, hla, nI_clamp (by omega)] at k9; exact k9)]; rw [if_neg (by have k9 := c380169; simp only [hir380166] at k9; exact k9)]; have ha9 : v380193 = σ.2.1 (5 * xp.toNatClampNeg + n380077) 2 := (by rw [ev380193, sx380192, esg380190, oRi_g (by decide)]; simp only [esg380184, sx380177, ev380080, ev380083]; rw [oAd_e]; exact Int32.add_sub_cancel _ _); rw [ha9]; refine Prod.ext ?_ rfl; show oPr _ _ _ _ _ _ _ _ = _; have hxp9 : nI xp.toNatClampNeg = xp := (xnI hth380004.1 (by decide)).symm; rw [oPr, if_neg (fun q => absurd q.2 (by have k9 := c380174; simp only [sx380173] at k9; exact k9)), if_neg (by have h9 := vp_in_iff.mp hin380081; rw [xk_lt, xk_0]; omega)]; rw [esg380190]; simp only [esg380184, sx380177, ev380080, ev380083, hxp9] <;> rfl); show _ = _; rw [e9]⟩, by rw [ht]; exact hP, va_K.moved hW.alike hK, hD⟩, hS.F ht⟩) hS.2.2 dX7_produce_347
                            · have kc380174 : x380173.toInt = 1 := by have h9 := c380174; rw [xk_eq, xk_1] at h9; exact h9
                              refine lv_iconst (v := 1) hx hb dX7_produce_270 (by decide) ?_
                              refine lv_goto (tgt := 275) hx hb dX7_produce_271 (by decide) ?_
                              refine lv_istore (lv' := [(10, .int 1), (11, .int y380098), (9, .int v380083), (8, .int v380080), (7, .ref (w (21 + (5 * xp.toNatClampNeg + n380077)))), (0, .ref (w 0)), (1, .int xp), (2, .int xh), (3, .int xs), (4, .int xk), (5, .int xv), (6, .int al)]) hx hb dX7_produce_275 hl (by decide) rfl (fun ls hl => ?_)
                              refine lv_aload hx hb dX7_produce_277 (lv_at hl 4 rfl) ?_
                              refine lv_aload_n hx hb dX7_produce_279 rfl (lv_at hl 5 rfl) ?_
                              obtain ⟨j380194, hj380194⟩ := wG_7 (cy := cy) (N := N) (T := T) (I := I) (Q := Q) (J := J) (hM.at 0 (by decide)) (hM.k 0 (by decide) rfl)
                              refine va_get (D := (dC, dI)) (ci := 7) (v := .ref (T (w 0) 4)) (C := RX7) (T := TX7) (N := 18) hx hb hts hi7 hown hK hP j380194 hj380194 rfl 4 (by decide) (hts (.fieldLink RX7 25 "TallyLogsModel" "epoch" "[I") (by decide +kernel)) (fun _ h9 => h9) rfl dX7_produce_280 ?_
                              refine W.eq (g2 := F0 m 283 ls [.ref (w 5), .ref (w (21 + (5 * xp.toNatClampNeg + n380077)))]) (by rw [hM.t 4 (by decide)]) ?_
                              refine lv_iload_n hx hb dX7_produce_283 rfl (lv_at hl 6 rfl) ?_
                              obtain ⟨j380195, hj380195⟩ := wG_20 (cy := cy) (N := N) (T := T) (I := I) (Q := Q) (J := J) (hM.at 5 (by decide)) (hM.k 5 (by decide) rfl)
                              refine va_iald hx hb hK hP j380195 1 hj380195 rfl (hM.inN (n := 4) 5 (by decide) rfl rfl hth380004.1) dX7_produce_284 ?_
                              refine lv_topi (fun x380196 ex380196 => ?_)
                              have sx380196 : x380196 = σ.1 5 xp.toNatClampNeg := ex380196.trans (hMR.a (k := 5) (by decide) (by decide) (show _ < 4 from vp_lt (n := 4) hth380004.1))
                              refine lv_iconst (v := 0) hx hb dX7_produce_285 (by decide) ?_
                              refine lv_iload hx hb dX7_produce_286 (lv_at hl 3 rfl) ?_
                              refine lv_iload hx hb dX7_produce_288 (lv_at hl 2 rfl) ?_
                              refine lv_iload hx hb dX7_produce_290 (lv_at hl 3 rfl) ?_
                              refine lv_if_ge (tgt := 299) hx hb dX7_produce_292 (by decide) (fun c380197 => ?_) (fun c380197 => ?_)
                              rotate_left
                              · exact absurd ((xk_le _ _).mpr (by rw [xk_0]; have h9 := vp_in_iff.mp hin380081; omega)) c380197
                              refine lv_iload_n hx hb dX7_produce_299 rfl (lv_at hl 8 rfl) ?_
                              refine lv_iload hx hb dX7_produce_300 (lv_at hl 9 rfl) ?_
                              refine lv_iload hx hb dX7_produce_302 (lv_at hl 10 rfl) ?_
                              refine lv_iload hx hb dX7_produce_304 (lv_at hl 0 rfl) ?_
                              refine lv_if_eq (tgt := 313) hx hb dX7_produce_306 (by decide) (fun c380198 => ?_) (fun c380198 => ?_)
                              · exact absurd c380198 (by decide)
                              refine lv_iconst (v := 1) hx hb dX7_produce_309 (by decide) ?_
                              refine lv_goto (tgt := 314) hx hb dX7_produce_310 (by decide) ?_
                              obtain ⟨j380199, hj380199⟩ := wG_6 (cy := cy) (N := N) (T := T) (I := I) (Q := Q) (J := J) (hM.lg hjn380077).1 (hM.lg hjn380077).2
                              have hFc := pfree hD hS hA
                              refine va_callv (va_runV (As := [.int x380196, .int 0, .int v380080, .int v380083, .int xs, .int xk, .int xv, .int 1]) (rest := []) ⟨hx, hb, hml, hown, hts⟩ (f_X6_add l dC dI cy w L K N T Q I J s.heap.size (5 * xp.toNatClampNeg + n380077) x380196 0 v380080 v380083 xs xk xv 1 σ hM hjn380077 (by omega) (by omega) (by omega) (by omega) hMR) (cwV 8 hts gX7_produce_X6_add rfl rfl rfl (by decide +kernel) ⟨Nat.le_of_ble_eq_true rfl, Nat.le_of_ble_eq_true rfl⟩) ⟨mw_blind, va_recv hK hP (ci := 6) (q0 := j380199) rfl hj380199, fun U hU hW => ⟨rfl, mw_pre hP hK hD hU hW⟩⟩ rfl rfl hl.1 rfl (lv_room (Nat.le_of_ble_eq_true rfl)) dX7_produce_314 ⟨Nat.le_of_ble_eq_true rfl, Nat.le_of_ble_eq_true rfl⟩) hS (fun q _ h => hFc q h) hFc (fun d9 t H1 locs ht hvm hw hB hz1 hk1 hS => ?_)
                              obtain ⟨I380200, J380200⟩ := d9
                              obtain ⟨hP, hK1, hD1⟩ := hB
                              rw [ht] at hP
                              have hD := hD1.weaken (fun _ _ _ h => hFc _ h)
                              generalize H1 = H at hP hS ⊢
                              have hP : va_P (dC, dI) vwCl (va_pl L (wF cy K N T I380200 Q J380200)) H := hP
                              have hD : va_D A (va_pl L (wF cy K N T I380200 Q J380200)) := hD
                              have hMRn := hw.1
                              have hw := hw.2
                              have hw380202 : LW w I J I380200 J380200 (5 * xp.toNatClampNeg + n380077) _ _ := hw
                              have hR : RM w [] I J I380200 J380200 := hR.lw hM hjn380077 hw380202
                              have hMD : MD w J380200 := hMD.lw hM hjn380077 hw380202
                              have hMU : MU w I380200 := hMU.lw hM hjn380077 hw380202
                              have q1hw380202 : (I380200 (w (21 + (5 * xp.toNatClampNeg + n380077))) 1).toInt = _ := hw380202.2.2.1
                              have q2hw380202 : (I380200 (w (21 + (5 * xp.toNatClampNeg + n380077))) 2).toInt = _ := hw380202.2.2.2
                              have q3hw380202 : (I380200 (w (21 + (5 * xp.toNatClampNeg + n380077))) 3).toInt = _ := congrArg Int32.toInt hw380202.f3
                              have q4hw380202 : (I380200 (w (21 + (5 * xp.toNatClampNeg + n380077))) 4).toInt = _ := congrArg Int32.toInt hw380202.f4
                              have hML : ML w (E + 1) I380200 := hML.lw hM hjn380077 hw380202 (by omega) ⟨by omega, by omega, by omega, by omega, by omega, by omega⟩
                              obtain ⟨sg380203, esg380203⟩ : ∃ z, z = oAd σ (5 * xp.toNatClampNeg + n380077) (r8 x380196 0 v380080 v380083 xs xk xv 1) := ⟨_, rfl⟩
                              have hMR : MR w I380200 J380200 sg380203 := by rw [esg380203]; exact hMRn
                              refine lv_iload hx hb dX7_produce_317 (lv_at hl 0 rfl) ?_
                              refine lv_if_eq (tgt := 335) hx hb dX7_produce_319 (by decide) (fun c380204 => ?_) (fun c380204 => ?_)
                              · exact absurd c380204 (by decide)
                              refine lv_aload_n hx hb dX7_produce_322 rfl (lv_at hl 5 rfl) ?_
                              obtain ⟨j380205, hj380205⟩ := wG_7 (cy := cy) (N := N) (T := T) (I := I380200) (Q := Q) (J := J380200) (hM.at 0 (by decide)) (hM.k 0 (by decide) rfl)
                              refine va_get (D := (dC, dI)) (ci := 7) (v := .ref (T (w 0) 9)) (C := RX7) (T := TX7) (N := 18) hx hb hts hi7 hown hK hP j380205 hj380205 rfl 9 (by decide) (hts (.fieldLink RX7 40 "TallyLogsModel" "bound" "[I") (by decide +kernel)) (fun _ h9 => h9) rfl dX7_produce_323 ?_
                              refine W.eq (g2 := F0 m 326 ls [.ref (w 10)]) (by rw [hM.t 9 (by decide)]) ?_
                              refine lv_iload hx hb dX7_produce_326 (lv_at hl 3 rfl) ?_
                              refine lv_dup2_11 hx hb dX7_produce_328 rfl rfl ?_
                              obtain ⟨j380206, hj380206⟩ := wG_20 (cy := cy) (N := N) (T := T) (I := I380200) (Q := Q) (J := J380200) (hM.at 10 (by decide)) (hM.k 10 (by decide) rfl)
                              refine va_iald hx hb hK hP j380206 1 hj380206 rfl (hM.inN (n := 6) 10 (by decide) rfl rfl hin380081) dX7_produce_329 ?_
                              refine lv_topi (fun x380207 ex380207 => ?_)
                              have sx380207 : x380207 = sg380203.1 10 v380080.toNatClampNeg := ex380207.trans (hMR.a (k := 10) (by decide) (by decide) (show _ < 6 from vp_lt (n := 6) hin380081))
                              refine lv_iconst (v := 1) hx hb dX7_produce_330 (by decide) ?_
                              refine lv_iload_n hx hb dX7_produce_331 rfl (lv_at hl 6 rfl) ?_
                              refine lv_ishl hx hb dX7_produce_332 ?_
                              refine lv_topi (fun v380208 ev380208 => ?_)
                              refine lv_ior hx hb dX7_produce_333 ?_
                              refine lv_topi (fun v380209 ev380209 => ?_)
                              obtain ⟨j380210, hj380210⟩ := wG_20 (cy := cy) (N := N) (T := T) (I := I380200) (Q := Q) (J := J380200) (hM.at 10 (by decide)) (hM.k 10 (by decide) rfl)
                              have hDo := hD
                              refine va_iast (x := v380209) hx hb hK hP hD hS j380210 1 hj380210 rfl (hM.inN (n := 6) 10 (by decide) rfl rfl hin380081) dX7_produce_334 (fun H locs hP hD hS => ?_)
                              have hP := Eq.mp (congrArg (fun w => va_P (dC, dI) vwCl w H) (wS_20 hDo (hM.at 10 (by decide)) (hM.k 10 (by decide) rfl) hj380210)) hP
                              obtain ⟨J380211, eJ380211⟩ : ∃ z, z = va_up J380200 (w 10) (upd (J380200 (w 10)) v380080.toNatClampNeg v380209) := ⟨_, rfl⟩
                              rw [← eJ380211] at hP
                              have hR : RM w [] I J I380200 J380211 := by rw [eJ380211]; exact hR.pj hM (by decide) (by decide)
                              have hMD : MD w J380211 := by rw [eJ380211]; exact hMD.pj hM (by decide) (by decide)
                              have hD : va_D A (va_pl L (wF cy K N T I380200 Q J380211)) := pD hDo
                              obtain ⟨sg380212, esg380212⟩ : ∃ z, z = sA sg380203 10 v380080.toNatClampNeg v380209 := ⟨_, rfl⟩
                              have hMR : MR w I380200 J380211 sg380212 := by rw [eJ380211, esg380212]; exact hMR.wa hM (by decide) (by decide)
                              refine lv_aload_n hx hb dX7_produce_335 rfl (lv_at hl 5 rfl) ?_
                              refine lv_iload_n hx hb dX7_produce_336 rfl (lv_at hl 6 rfl) ?_
                              obtain ⟨j380213, hj380213⟩ := wG_7 (cy := cy) (N := N) (T := T) (I := I380200) (Q := Q) (J := J380211) (hM.at 0 (by decide)) (hM.k 0 (by decide) rfl)
                              have hFc := pfree hD hS hA
                              refine va_callv (va_runV (As := [.int xp]) (rest := []) ⟨hx, hb, hml, hown, hts⟩ (f_X7_rise l dC dI cy w L K N T Q I380200 J380211 H.size xp sg380212 hM hth380004.1 (hMD _ (vp_lt (n := 4) hth380004.1)) hMR) (cwV 1 hts gX7_produce_X7_rise rfl rfl rfl (by decide +kernel) ⟨Nat.le_of_ble_eq_true rfl, Nat.le_of_ble_eq_true rfl⟩) ⟨mw_blind, va_recv hK hP (ci := 7) (q0 := j380213) rfl hj380213, fun U hU hW => ⟨rfl, mw_pre hP hK hD hU hW⟩⟩ rfl rfl hl.1 rfl (lv_room (Nat.le_of_ble_eq_true rfl)) dX7_produce_337 ⟨Nat.le_of_ble_eq_true rfl, Nat.le_of_ble_eq_true rfl⟩) hS (fun q _ h => hFc q h) hFc (fun d9 t H1 locs ht hvm hw hB hz1 hk1 hS => ?_)
                              obtain ⟨I380214, J380214⟩ := d9
                              obtain ⟨hP, hK1, hD1⟩ := hB
                              rw [ht] at hP
                              have hD := hD1.weaken (fun _ _ _ h => hFc _ h)
                              generalize H1 = H at hP hS ⊢
                              have hP : va_P (dC, dI) vwCl (va_pl L (wF cy K N T I380214 Q J380214)) H := hP
                              have hD : va_D A (va_pl L (wF cy K N T I380214 Q J380214)) := hD
                              have hMRn := hw.1
                              have hw := hw.2
                              have hw380216 : RZ w I380200 J380211 I380214 J380214 xp.toNatClampNeg := hw
                              have hR : RM w [] I J I380214 J380214 := hR.rz hM (vp_lt (n := 4) hth380004.1) hw380216
                              have hMD : MD w J380214 := hMD.rz hw380216
                              have hMU : MU w I380214 := hMU.rz hM (vp_lt (n := 4) hth380004.1) hw380216
                              have hML : ML w (E + 1) I380214 := hML.rz hM (vp_lt (n := 4) hth380004.1) hw380216
                              obtain ⟨sg380217, esg380217⟩ : ∃ z, z = oRi sg380212 xp.toNatClampNeg := ⟨_, rfl⟩
                              have hMR : MR w I380214 J380214 sg380217 := by rw [esg380217]; exact hMRn
                              refine lv_aload hx hb dX7_produce_340 (lv_at hl 4 rfl) ?_
                              obtain ⟨j380218, hj380218⟩ := wG_6 (cy := cy) (N := N) (T := T) (I := I380214) (Q := Q) (J := J380214) (hM.lg hjn380077).1 (hM.lg hjn380077).2
                              refine va_get (D := (dC, dI)) (ci := 6) (v := .int (I380214 (w (21 + (5 * xp.toNatClampNeg + n380077))) 2)) (C := RX6) (T := TX6) (N := 7) hx hb hts hi6 hown hK hP j380218 hj380218 rfl 2 (by decide) (hts (.fieldLink RX7 89 "TallyLogsModel$Log" "end" "I") (by decide +kernel)) (fun _ h9 => h9) rfl dX7_produce_342 ?_
                              refine lv_topi (fun x380219 ex380219 => ?_)
                              have sx380219 : x380219 = sg380217.2.1 (5 * xp.toNatClampNeg + n380077) 2 := ex380219.trans (hMR.g hjn380077 (by decide) (by decide))
                              have tx380219 : x380219.toInt = (I380214 (w (21 + (5 * xp.toNatClampNeg + n380077))) 2).toInt := congrArg Int32.toInt ex380219
                              refine lv_iconst (v := 1) hx hb dX7_produce_345 (by decide) ?_
                              refine lv_isub hx hb dX7_produce_346 ?_
                              refine lv_topi (fun v380220 ev380220 => ?_)
                              rw [hQz]
                              exact W.iret (v := v380220) hx hb hr (fun t ht hW => ⟨⟨v380220, (I380214, J380214), rfl, ⟨⟨hML.mono (by omega), hMD, hMU⟩, by have e9 : qPr σ xp xh xs xk xv al = (sg380217, v380220) := (by have hk9 : xh - xh / 8 * 8 = v380080 := (by simp only [ev380080]); have hg9 : xh / 8 = v380083 := (by simp only [ev380083]); rw [qPr, if_neg (by have k9 := c380003; simp only [hir380001] at k9; exact k9), if_neg (fun q => c380073 q.2), oqn380077]; show (if _ then _ else _) = _; rw [if_neg c380005]; rw [if_neg (fun q => q.elim (fun z => z (by have k9 := c380088; simp only [sx380087, ev380080, ev380083] at k9; exact k9)) (by have k9 := c380092; simp only [sx380091, ev380080] at k9; exact k9))]; rw [if_neg (fun q => q.1 c380093)]; rw [hk9, hg9, hfu]; show (match fD _ _ _ with | none => _ | some q => _) = _; rw [hfd]; show (if _ then _ else _) = _; rw [if_pos (by have k9 := c380165; rw [ev380164, hr380162, hla, nI_clamp (by omega)] at k9; exact k9)]; rw [if_neg (by have k9 := c380169; simp only [hir380166] at k9; exact k9)]; have ha9 : v380220 = σ.2.1 (5 * xp.toNatClampNeg + n380077) 2 := (by rw [ev380220, sx380219, esg380217, oRi_g (by decide)]; simp only [esg380212, ev380080, ev380209, sx380207, ev380208, esg380203, sx380196, ev380083]; rw [sA_2, oAd_e]; exact Int32.add_sub_cancel _ _); rw [ha9]; refine Prod.ext ?_ rfl; show oPr _ _ _ _ _ _ _ _ = _; have hxp9 : nI xp.toNatClampNeg = xp := (xnI hth380004.1 (by decide)).symm; rw [oPr, if_pos ⟨(by have h9 := vp_in_iff.mp hin380081; rw [xk_lt, xk_0]; omega), (by have k9 := c380174; simp only [sx380173] at k9; exact k9)⟩]; rw [esg380217]; simp only [esg380212, ev380080, ev380209, sx380207, ev380208, esg380203, sx380196, ev380083, hxp9] <;> rfl); show MR w I380214 J380214 _; rw [e9]; exact hMR, by have e9 : qPr σ xp xh xs xk xv al = (sg380217, v380220) := (by have hk9 : xh - xh / 8 * 8 = v380080 := (by simp only [ev380080]); have hg9 : xh / 8 = v380083 := (by simp only [ev380083]); rw [qPr, if_neg (by have k9 := c380003; simp only [hir380001] at k9; exact k9), if_neg (fun q => c380073 q.2), oqn380077]; show (if _ then _ else _) = _; rw [if_neg c380005]; rw [if_neg (fun q => q.elim (fun z => z (by have k9 := c380088; simp only [sx380087, ev380080, ev380083] at k9; exact k9)) (by have k9 := c380092; simp only [sx380091, ev380080] at k9; exact k9))]; rw [if_neg (fun q => q.1 c380093)]; rw [hk9, hg9, hfu]; show (match fD _ _ _ with | none => _ | some q => _) = _; rw [hfd]; show (if _ then _ else _) = _; rw [if_pos (by have k9 := c380165; rw [ev380164, hr380162, hla, nI_clamp (by omega)] at k9; exact k9)]; rw [if_neg (by have k9 := c380169; simp only [hir380166] at k9; exact k9)]; have ha9 : v380220 = σ.2.1 (5 * xp.toNatClampNeg + n380077) 2 := (by rw [ev380220, sx380219, esg380217, oRi_g (by decide)]; simp only [esg380212, ev380080, ev380209, sx380207, ev380208, esg380203, sx380196, ev380083]; rw [sA_2, oAd_e]; exact Int32.add_sub_cancel _ _); rw [ha9]; refine Prod.ext ?_ rfl; show oPr _ _ _ _ _ _ _ _ = _; have hxp9 : nI xp.toNatClampNeg = xp := (xnI hth380004.1 (by decide)).symm; rw [oPr, if_pos ⟨(by have h9 := vp_in_iff.mp hin380081; rw [xk_lt, xk_0]; omega), (by have k9 := c380174; simp only [sx380173] at k9; exact k9)⟩]; rw [esg380217]; simp only [esg380212, ev380080, ev380209, sx380207, ev380208, esg380203, sx380196, ev380083, hxp9] <;> rfl); show _ = _; rw [e9]⟩, by rw [ht]; exact hP, va_K.moved hW.alike hK, hD⟩, hS.F ht⟩) hS.2.2 dX7_produce_347
                          · have kc380169 : r380166.toInt = 60 := by have h9 := c380169; rw [xk_eq, (show (60 : Int32).toInt = 60 by decide)] at h9; exact h9
                            refine lv_bipush (v := (-3)) hx hb dX7_produce_251 (by decide) ?_
                            rw [hQz]
                            exact W.iret (v := (-3)) hx hb hr (fun t ht hW => ⟨⟨(-3), (I, J), rfl, ⟨⟨hML.mono (by omega), hMD, hMU⟩, by have e9 : qPr σ xp xh xs xk xv al = (σ, (-3)) := (by have hk9 : xh - xh / 8 * 8 = v380080 := (by simp only [ev380080]); have hg9 : xh / 8 = v380083 := (by simp only [ev380083]); rw [qPr, if_neg (by have k9 := c380003; simp only [hir380001] at k9; exact k9), if_neg (fun q => c380073 q.2), oqn380077]; show (if _ then _ else _) = _; rw [if_neg c380005]; rw [if_neg (fun q => q.elim (fun z => z (by have k9 := c380088; simp only [sx380087, ev380080, ev380083] at k9; exact k9)) (by have k9 := c380092; simp only [sx380091, ev380080] at k9; exact k9))]; rw [if_neg (fun q => q.1 c380093)]; rw [hk9, hg9, hfu]; show (match fD _ _ _ with | none => _ | some q => _) = _; rw [hfd]; show (if _ then _ else _) = _; rw [if_pos (by have k9 := c380165; rw [ev380164, hr380162, hla, nI_clamp (by omega)] at k9; exact k9)]; rw [if_pos (by have k9 := c380169; simp only [hir380166] at k9; exact k9)]); show MR w I J _; rw [e9]; exact hMR, by have e9 : qPr σ xp xh xs xk xv al = (σ, (-3)) := (by have hk9 : xh - xh / 8 * 8 = v380080 := (by simp only [ev380080]); have hg9 : xh / 8 = v380083 := (by simp only [ev380083]); rw [qPr, if_neg (by have k9 := c380003; simp only [hir380001] at k9; exact k9), if_neg (fun q => c380073 q.2), oqn380077]; show (if _ then _ else _) = _; rw [if_neg c380005]; rw [if_neg (fun q => q.elim (fun z => z (by have k9 := c380088; simp only [sx380087, ev380080, ev380083] at k9; exact k9)) (by have k9 := c380092; simp only [sx380091, ev380080] at k9; exact k9))]; rw [if_neg (fun q => q.1 c380093)]; rw [hk9, hg9, hfu]; show (match fD _ _ _ with | none => _ | some q => _) = _; rw [hfd]; show (if _ then _ else _) = _; rw [if_pos (by have k9 := c380165; rw [ev380164, hr380162, hla, nI_clamp (by omega)] at k9; exact k9)]; rw [if_pos (by have k9 := c380169; simp only [hir380166] at k9; exact k9)]); show _ = _; rw [e9]⟩, by rw [ht]; exact hP, va_K.moved hW.alike hK, hD⟩, hS.F ht⟩) hS.2.2 dX7_produce_253
                        · have kc380165 : ¬ (xs.toInt = v380164.toInt) := by have h9 := c380165; rw [xk_eq] at h9; exact h9
                          refine lv_bipush (v := (-6)) hx hb dX7_produce_238 (by decide) ?_
                          rw [hQz]
                          exact W.iret (v := (-6)) hx hb hr (fun t ht hW => ⟨⟨(-6), (I, J), rfl, ⟨⟨hML.mono (by omega), hMD, hMU⟩, by have e9 : qPr σ xp xh xs xk xv al = (σ, (-6)) := (by have hk9 : xh - xh / 8 * 8 = v380080 := (by simp only [ev380080]); have hg9 : xh / 8 = v380083 := (by simp only [ev380083]); rw [qPr, if_neg (by have k9 := c380003; simp only [hir380001] at k9; exact k9), if_neg (fun q => c380073 q.2), oqn380077]; show (if _ then _ else _) = _; rw [if_neg c380005]; rw [if_neg (fun q => q.elim (fun z => z (by have k9 := c380088; simp only [sx380087, ev380080, ev380083] at k9; exact k9)) (by have k9 := c380092; simp only [sx380091, ev380080] at k9; exact k9))]; rw [if_neg (fun q => q.1 c380093)]; rw [hk9, hg9, hfu]; show (match fD _ _ _ with | none => _ | some q => _) = _; rw [hfd]; show (if _ then _ else _) = _; rw [if_neg (by have k9 := c380165; rw [ev380164, hr380162, hla, nI_clamp (by omega)] at k9; exact k9)]); show MR w I J _; rw [e9]; exact hMR, by have e9 : qPr σ xp xh xs xk xv al = (σ, (-6)) := (by have hk9 : xh - xh / 8 * 8 = v380080 := (by simp only [ev380080]); have hg9 : xh / 8 = v380083 := (by simp only [ev380083]); rw [qPr, if_neg (by have k9 := c380003; simp only [hir380001] at k9; exact k9), if_neg (fun q => c380073 q.2), oqn380077]; show (if _ then _ else _) = _; rw [if_neg c380005]; rw [if_neg (fun q => q.elim (fun z => z (by have k9 := c380088; simp only [sx380087, ev380080, ev380083] at k9; exact k9)) (by have k9 := c380092; simp only [sx380091, ev380080] at k9; exact k9))]; rw [if_neg (fun q => q.1 c380093)]; rw [hk9, hg9, hfu]; show (match fD _ _ _ with | none => _ | some q => _) = _; rw [hfd]; show (if _ then _ else _) = _; rw [if_neg (by have k9 := c380165; rw [ev380164, hr380162, hla, nI_clamp (by omega)] at k9; exact k9)]); show _ = _; rw [e9]⟩, by rw [ht]; exact hP, va_K.moved hW.alike hK, hD⟩, hS.F ht⟩) hS.2.2 dX7_produce_240
                    · have kc380102 : ¬ (x380101.toInt ≤ y380098.toInt) := by have h9 := c380102; rw [xk_le] at h9; exact h9
                      refine lv_aload hx hb dX7_produce_147 (lv_at hl 4 rfl) ?_
                      refine lv_iload hx hb dX7_produce_149 (lv_at hl 0 rfl) ?_
                      refine lv_iconst (v := 1) hx hb dX7_produce_151 (by decide) ?_
                      obtain ⟨j380222, hj380222⟩ := wG_6 (cy := cy) (N := N) (T := T) (I := I) (Q := Q) (J := J) (hM.lg hjn380077).1 (hM.lg hjn380077).2
                      refine vp_callSi (W.runV (As := [.int y380098, .int 1]) (rest := []) ⟨hx, hb, hml, hown, hts⟩ (f_X6_get l dC dI cy w L K N T Q I J (5 * xp.toNatClampNeg + n380077) y380098 1 σ hM hjn380077 (by omega) (by omega) (by omega) (by omega) (by unfold vp_in; decide) hMR) (cwV 2 hts gX7_produce_X6_get rfl rfl rfl (by decide +kernel) ⟨Nat.le_of_ble_eq_true rfl, Nat.le_of_ble_eq_true rfl⟩) ⟨mb_blind, va_recv hK hP (ci := 6) (q0 := j380222) rfl hj380222, fun U hU hW => ⟨rfl, mb_pre hP hK hU hW⟩⟩ rfl rfl hl.1 rfl (lv_room (Nat.le_of_ble_eq_true rfl)) dX7_produce_152 ⟨Nat.le_of_ble_eq_true rfl, Nat.le_of_ble_eq_true rfl⟩) (fun r380221 hr380221 => ?_)
                      rw [show (1 : Int32).toNatClampNeg = 1 by decide] at hr380221
                      refine lv_if_ne (tgt := 206) hx hb dX7_produce_155 (by decide) (fun c380223 => ?_) (fun c380223 => ?_)
                      · have kc380223 : ¬ (r380221.toInt = 0) := by have h9 := c380223; rw [xk_eq, xk_0] at h9; exact h9
                        obtain ⟨v380224, ev380224⟩ : ∃ y : Int32, y = y380098 + Int32.ofInt 1 := ⟨_, rfl⟩
                        refine lv_iinc (v := v380224) (lv' := [(11, .int v380224), (10, .int y380099), (9, .int v380083), (8, .int v380080), (7, .ref (w (21 + (5 * xp.toNatClampNeg + n380077)))), (0, .ref (w 0)), (1, .int xp), (2, .int xh), (3, .int xs), (4, .int xk), (5, .int xv), (6, .int al)]) hx hb dX7_produce_206 hl (k := 0) rfl ev380224.symm (by decide) rfl (fun ls hl => ?_)
                        refine lv_goto (tgt := 137) hx hb dX7_produce_209 (by decide) ?_
                        have tv380224 : v380224.toInt = y380098.toInt + 1 := by rw [ev380224, show y380098 + Int32.ofInt 1 = y380098 + 1 from rfl]; exact xinc (y := I (w (21 + (5 * xp.toNatClampNeg + n380077))) 2) (by rw [xk_lt]; omega)
                        exact ih380097 _ _ _ (by omega) (by omega) (⟨by omega, hiv380097.2.1, by omega, by rw [clsucc (y := y380098) (by omega) tv380224, ← fU_step (hMR.lte hjn380077 (by omega) (by omega)) (fun q => c380223 (by rw [hr380221]; exact (of_decide_eq_true q).1))]; exact hiv380097.2.2.2.1, by rw [clsucc (y := y380098) (by omega) tv380224, fD_no (hMR.leb hjn380077 (by omega)) (fun q => c380223 (by rw [hr380221]; exact (of_decide_eq_true q).1))]; exact hiv380097.2.2.2.2⟩)  (lv_sub hl [0, 1, 2, 3, 4, 5, 6, 7, 8, 9, 10, 11] rfl)
                      · have kc380223 : r380221.toInt = 0 := by have h9 := c380223; rw [xk_eq, xk_0] at h9; exact h9
                        refine lv_aload hx hb dX7_produce_158 (lv_at hl 4 rfl) ?_
                        refine lv_iload hx hb dX7_produce_160 (lv_at hl 0 rfl) ?_
                        refine lv_iconst (v := 2) hx hb dX7_produce_162 (by decide) ?_
                        obtain ⟨j380226, hj380226⟩ := wG_6 (cy := cy) (N := N) (T := T) (I := I) (Q := Q) (J := J) (hM.lg hjn380077).1 (hM.lg hjn380077).2
                        refine vp_callSi (W.runV (As := [.int y380098, .int 2]) (rest := []) ⟨hx, hb, hml, hown, hts⟩ (f_X6_get l dC dI cy w L K N T Q I J (5 * xp.toNatClampNeg + n380077) y380098 2 σ hM hjn380077 (by omega) (by omega) (by omega) (by omega) (by unfold vp_in; decide) hMR) (cwV 2 hts gX7_produce_X6_get rfl rfl rfl (by decide +kernel) ⟨Nat.le_of_ble_eq_true rfl, Nat.le_of_ble_eq_true rfl⟩) ⟨mb_blind, va_recv hK hP (ci := 6) (q0 := j380226) rfl hj380226, fun U hU hW => ⟨rfl, mb_pre hP hK hU hW⟩⟩ rfl rfl hl.1 rfl (lv_room (Nat.le_of_ble_eq_true rfl)) dX7_produce_163 ⟨Nat.le_of_ble_eq_true rfl, Nat.le_of_ble_eq_true rfl⟩) (fun r380225 hr380225 => ?_)
                        rw [show (2 : Int32).toNatClampNeg = 2 by decide] at hr380225
                        refine lv_iload hx hb dX7_produce_166 (lv_at hl 3 rfl) ?_
                        refine lv_icmp_ne (tgt := 206) hx hb dX7_produce_168 (by decide) (fun c380227 => ?_) (fun c380227 => ?_)
                        · have kc380227 : ¬ (r380225.toInt = v380080.toInt) := by have h9 := c380227; rw [xk_eq] at h9; exact h9
                          obtain ⟨v380228, ev380228⟩ : ∃ y : Int32, y = y380098 + Int32.ofInt 1 := ⟨_, rfl⟩
                          refine lv_iinc (v := v380228) (lv' := [(11, .int v380228), (10, .int y380099), (9, .int v380083), (8, .int v380080), (7, .ref (w (21 + (5 * xp.toNatClampNeg + n380077)))), (0, .ref (w 0)), (1, .int xp), (2, .int xh), (3, .int xs), (4, .int xk), (5, .int xv), (6, .int al)]) hx hb dX7_produce_206 hl (k := 0) rfl ev380228.symm (by decide) rfl (fun ls hl => ?_)
                          refine lv_goto (tgt := 137) hx hb dX7_produce_209 (by decide) ?_
                          have tv380228 : v380228.toInt = y380098.toInt + 1 := by rw [ev380228, show y380098 + Int32.ofInt 1 = y380098 + 1 from rfl]; exact xinc (y := I (w (21 + (5 * xp.toNatClampNeg + n380077))) 2) (by rw [xk_lt]; omega)
                          exact ih380097 _ _ _ (by omega) (by omega) (⟨by omega, hiv380097.2.1, by omega, by rw [clsucc (y := y380098) (by omega) tv380228, ← fU_step (hMR.lte hjn380077 (by omega) (by omega)) (fun q => c380227 (by rw [hr380225]; exact (of_decide_eq_true q).2.1))]; exact hiv380097.2.2.2.1, by rw [clsucc (y := y380098) (by omega) tv380228, fD_no (hMR.leb hjn380077 (by omega)) (fun q => c380227 (by rw [hr380225]; exact (of_decide_eq_true q).2.1))]; exact hiv380097.2.2.2.2⟩)  (lv_sub hl [0, 1, 2, 3, 4, 5, 6, 7, 8, 9, 10, 11] rfl)
                        · have kc380227 : r380225.toInt = v380080.toInt := by have h9 := c380227; rw [xk_eq] at h9; exact h9
                          refine lv_aload hx hb dX7_produce_171 (lv_at hl 4 rfl) ?_
                          refine lv_iload hx hb dX7_produce_173 (lv_at hl 0 rfl) ?_
                          refine lv_iconst (v := 3) hx hb dX7_produce_175 (by decide) ?_
                          obtain ⟨j380230, hj380230⟩ := wG_6 (cy := cy) (N := N) (T := T) (I := I) (Q := Q) (J := J) (hM.lg hjn380077).1 (hM.lg hjn380077).2
                          refine vp_callSi (W.runV (As := [.int y380098, .int 3]) (rest := []) ⟨hx, hb, hml, hown, hts⟩ (f_X6_get l dC dI cy w L K N T Q I J (5 * xp.toNatClampNeg + n380077) y380098 3 σ hM hjn380077 (by omega) (by omega) (by omega) (by omega) (by unfold vp_in; decide) hMR) (cwV 2 hts gX7_produce_X6_get rfl rfl rfl (by decide +kernel) ⟨Nat.le_of_ble_eq_true rfl, Nat.le_of_ble_eq_true rfl⟩) ⟨mb_blind, va_recv hK hP (ci := 6) (q0 := j380230) rfl hj380230, fun U hU hW => ⟨rfl, mb_pre hP hK hU hW⟩⟩ rfl rfl hl.1 rfl (lv_room (Nat.le_of_ble_eq_true rfl)) dX7_produce_176 ⟨Nat.le_of_ble_eq_true rfl, Nat.le_of_ble_eq_true rfl⟩) (fun r380229 hr380229 => ?_)
                          rw [show (3 : Int32).toNatClampNeg = 3 by decide] at hr380229
                          refine lv_iload hx hb dX7_produce_179 (lv_at hl 2 rfl) ?_
                          refine lv_icmp_eq (tgt := 187) hx hb dX7_produce_181 (by decide) (fun c380231 => ?_) (fun c380231 => ?_)
                          · have kc380231 : r380229.toInt = v380083.toInt := by have h9 := c380231; rw [xk_eq] at h9; exact h9
                            refine lv_aload hx hb dX7_produce_187 (lv_at hl 4 rfl) ?_
                            refine lv_iload hx hb dX7_produce_189 (lv_at hl 0 rfl) ?_
                            refine lv_iconst (v := 4) hx hb dX7_produce_191 (by decide) ?_
                            obtain ⟨j380233, hj380233⟩ := wG_6 (cy := cy) (N := N) (T := T) (I := I) (Q := Q) (J := J) (hM.lg hjn380077).1 (hM.lg hjn380077).2
                            refine vp_callSi (W.runV (As := [.int y380098, .int 4]) (rest := []) ⟨hx, hb, hml, hown, hts⟩ (f_X6_get l dC dI cy w L K N T Q I J (5 * xp.toNatClampNeg + n380077) y380098 4 σ hM hjn380077 (by omega) (by omega) (by omega) (by omega) (by unfold vp_in; decide) hMR) (cwV 2 hts gX7_produce_X6_get rfl rfl rfl (by decide +kernel) ⟨Nat.le_of_ble_eq_true rfl, Nat.le_of_ble_eq_true rfl⟩) ⟨mb_blind, va_recv hK hP (ci := 6) (q0 := j380233) rfl hj380233, fun U hU hW => ⟨rfl, mb_pre hP hK hU hW⟩⟩ rfl rfl hl.1 rfl (lv_room (Nat.le_of_ble_eq_true rfl)) dX7_produce_192 ⟨Nat.le_of_ble_eq_true rfl, Nat.le_of_ble_eq_true rfl⟩) (fun r380232 hr380232 => ?_)
                            rw [show (4 : Int32).toNatClampNeg = 4 by decide] at hr380232
                            refine lv_iload_n hx hb dX7_produce_195 rfl (lv_at hl 8 rfl) ?_
                            refine lv_icmp_ne (tgt := 202) hx hb dX7_produce_196 (by decide) (fun c380234 => ?_) (fun c380234 => ?_)
                            · have kc380234 : ¬ (r380232.toInt = xs.toInt) := by have h9 := c380234; rw [xk_eq] at h9; exact h9
                              refine lv_iload hx hb dX7_produce_202 (lv_at hl 0 rfl) ?_
                              refine lv_istore (lv' := [(10, .int y380098), (11, .int y380098), (9, .int v380083), (8, .int v380080), (7, .ref (w (21 + (5 * xp.toNatClampNeg + n380077)))), (0, .ref (w 0)), (1, .int xp), (2, .int xh), (3, .int xs), (4, .int xk), (5, .int xv), (6, .int al)]) hx hb dX7_produce_204 hl (by decide) rfl (fun ls hl => ?_)
                              obtain ⟨v380235, ev380235⟩ : ∃ y : Int32, y = y380098 + Int32.ofInt 1 := ⟨_, rfl⟩
                              refine lv_iinc (v := v380235) (lv' := [(11, .int v380235), (10, .int y380098), (9, .int v380083), (8, .int v380080), (7, .ref (w (21 + (5 * xp.toNatClampNeg + n380077)))), (0, .ref (w 0)), (1, .int xp), (2, .int xh), (3, .int xs), (4, .int xk), (5, .int xv), (6, .int al)]) hx hb dX7_produce_206 hl (k := 1) rfl ev380235.symm (by decide) rfl (fun ls hl => ?_)
                              refine lv_goto (tgt := 137) hx hb dX7_produce_209 (by decide) ?_
                              have tv380235 : v380235.toInt = y380098.toInt + 1 := by rw [ev380235, show y380098 + Int32.ofInt 1 = y380098 + 1 from rfl]; exact xinc (y := I (w (21 + (5 * xp.toNatClampNeg + n380077))) 2) (by rw [xk_lt]; omega)
                              exact ih380097 _ _ _ (by omega) (by omega) (⟨by omega, Or.inr ⟨by omega, by omega⟩, by omega, by rw [clsucc (y := y380098) (by omega) tv380235, ← fU_step (hMR.lte hjn380077 (by omega) (by omega)) (fun q => c380234 (by rw [hr380232]; exact (of_decide_eq_true q).2.2.2))]; exact hiv380097.2.2.2.1, by rw [clsucc (y := y380098) (by omega) tv380235, fD_yes (hMR.leb hjn380077 (by omega)) (decide_eq_true ⟨by rw [← hr380221]; exact c380223, by rw [← hr380225]; exact c380227, by rw [← hr380229]; exact c380231⟩)]; exact xcl9 (by omega)⟩)  (lv_sub hl [0, 1, 2, 3, 4, 5, 6, 7, 8, 9, 10, 11] rfl)
                            · have kc380234 : r380232.toInt = xs.toInt := by have h9 := c380234; rw [xk_eq] at h9; exact h9
                              refine lv_iload hx hb dX7_produce_199 (lv_at hl 0 rfl) ?_
                              rw [hQz]
                              exact W.iret (v := y380098) hx hb hr (fun t ht hW => ⟨⟨y380098, (I, J), rfl, ⟨⟨hML.mono (by omega), hMD, hMU⟩, by have e9 : qPr σ xp xh xs xk xv al = (σ, y380098) := (by have hk9 : xh - xh / 8 * 8 = v380080 := (by simp only [ev380080]); have hg9 : xh / 8 = v380083 := (by simp only [ev380083]); rw [qPr, if_neg (by have k9 := c380003; simp only [hir380001] at k9; exact k9), if_neg (fun q => c380073 q.2), oqn380077]; show (if _ then _ else _) = _; rw [if_neg c380005]; rw [if_neg (fun q => q.elim (fun z => z (by have k9 := c380088; simp only [sx380087, ev380080, ev380083] at k9; exact k9)) (by have k9 := c380092; simp only [sx380091, ev380080] at k9; exact k9))]; rw [if_neg (fun q => q.1 c380093)]; rw [hk9, hg9, ← hiv380097.2.2.2.1, fU_hit (hMR.lte hjn380077 (by omega) (by omega)) (decide_eq_true ⟨by rw [← hr380221]; exact c380223, by rw [← hr380225]; exact c380227, by rw [← hr380229]; exact c380231, by rw [← hr380232]; exact c380234⟩)]; show (_, nI _) = _; rw [nI, ← xcl9 (by omega)]); show MR w I J _; rw [e9]; exact hMR, by have e9 : qPr σ xp xh xs xk xv al = (σ, y380098) := (by have hk9 : xh - xh / 8 * 8 = v380080 := (by simp only [ev380080]); have hg9 : xh / 8 = v380083 := (by simp only [ev380083]); rw [qPr, if_neg (by have k9 := c380003; simp only [hir380001] at k9; exact k9), if_neg (fun q => c380073 q.2), oqn380077]; show (if _ then _ else _) = _; rw [if_neg c380005]; rw [if_neg (fun q => q.elim (fun z => z (by have k9 := c380088; simp only [sx380087, ev380080, ev380083] at k9; exact k9)) (by have k9 := c380092; simp only [sx380091, ev380080] at k9; exact k9))]; rw [if_neg (fun q => q.1 c380093)]; rw [hk9, hg9, ← hiv380097.2.2.2.1, fU_hit (hMR.lte hjn380077 (by omega) (by omega)) (decide_eq_true ⟨by rw [← hr380221]; exact c380223, by rw [← hr380225]; exact c380227, by rw [← hr380229]; exact c380231, by rw [← hr380232]; exact c380234⟩)]; show (_, nI _) = _; rw [nI, ← xcl9 (by omega)]); show _ = _; rw [e9]⟩, by rw [ht]; exact hP, va_K.moved hW.alike hK, hD⟩, hS.F ht⟩) hS.2.2 dX7_produce_201
                          · have kc380231 : ¬ (r380229.toInt = v380083.toInt) := by have h9 := c380231; rw [xk_eq] at h9; exact h9
                            refine lv_goto (tgt := 206) hx hb dX7_produce_184 (by decide) ?_
                            obtain ⟨v380236, ev380236⟩ : ∃ y : Int32, y = y380098 + Int32.ofInt 1 := ⟨_, rfl⟩
                            refine lv_iinc (v := v380236) (lv' := [(11, .int v380236), (10, .int y380099), (9, .int v380083), (8, .int v380080), (7, .ref (w (21 + (5 * xp.toNatClampNeg + n380077)))), (0, .ref (w 0)), (1, .int xp), (2, .int xh), (3, .int xs), (4, .int xk), (5, .int xv), (6, .int al)]) hx hb dX7_produce_206 hl (k := 0) rfl ev380236.symm (by decide) rfl (fun ls hl => ?_)
                            refine lv_goto (tgt := 137) hx hb dX7_produce_209 (by decide) ?_
                            have tv380236 : v380236.toInt = y380098.toInt + 1 := by rw [ev380236, show y380098 + Int32.ofInt 1 = y380098 + 1 from rfl]; exact xinc (y := I (w (21 + (5 * xp.toNatClampNeg + n380077))) 2) (by rw [xk_lt]; omega)
                            exact ih380097 _ _ _ (by omega) (by omega) (⟨by omega, hiv380097.2.1, by omega, by rw [clsucc (y := y380098) (by omega) tv380236, ← fU_step (hMR.lte hjn380077 (by omega) (by omega)) (fun q => c380231 (by rw [hr380229]; exact (of_decide_eq_true q).2.2.1))]; exact hiv380097.2.2.2.1, by rw [clsucc (y := y380098) (by omega) tv380236, fD_no (hMR.leb hjn380077 (by omega)) (fun q => c380231 (by rw [hr380229]; exact (of_decide_eq_true q).2.2))]; exact hiv380097.2.2.2.2⟩)  (lv_sub hl [0, 1, 2, 3, 4, 5, 6, 7, 8, 9, 10, 11] rfl)
                exact hLP380097 _ _ _ _ (Nat.lt_succ_self _) (by omega) (⟨by omega, Or.inl (by decide), by omega, by rw [hMR.vb hjn380077, ex380096], by rw [hMR.vb hjn380077, ex380096, Nat.sub_self]; rfl⟩)  (lv_sub hl [0, 1, 2, 3, 4, 5, 6, 7, 8, 9, 10, 11] rfl)
              · have kc380093 : ¬ (al.toInt = 0) := by have h9 := c380093; rw [xk_eq, xk_0] at h9; exact h9
                refine lv_aload_n hx hb dX7_produce_101 rfl (lv_at hl 3 rfl) ?_
                obtain ⟨j380237, hj380237⟩ := wG_7 (cy := cy) (N := N) (T := T) (I := I) (Q := Q) (J := J) (hM.at 0 (by decide)) (hM.k 0 (by decide) rfl)
                refine va_get (D := (dC, dI)) (ci := 7) (v := .ref (T (w 0) 6)) (C := RX7) (T := TX7) (N := 18) hx hb hts hi7 hown hK hP j380237 hj380237 rfl 6 (by decide) (hts (.fieldLink RX7 31 "TallyLogsModel" "step" "[I") (by decide +kernel)) (fun _ h9 => h9) rfl dX7_produce_102 ?_
                refine W.eq (g2 := F0 m 105 ls [.ref (w 7)]) (by rw [hM.t 6 (by decide)]) ?_
                refine lv_iload_n hx hb dX7_produce_105 rfl (lv_at hl 4 rfl) ?_
                obtain ⟨j380238, hj380238⟩ := wG_20 (cy := cy) (N := N) (T := T) (I := I) (Q := Q) (J := J) (hM.at 7 (by decide)) (hM.k 7 (by decide) rfl)
                refine va_iald hx hb hK hP j380238 1 hj380238 rfl (hM.inN (n := 4) 7 (by decide) rfl rfl hth380004.1) dX7_produce_106 ?_
                refine lv_topi (fun x380239 ex380239 => ?_)
                have sx380239 : x380239 = σ.1 7 xp.toNatClampNeg := ex380239.trans (hMR.a (k := 7) (by decide) (by decide) (show _ < 4 from vp_lt (n := 4) hth380004.1))
                refine vp_callSi (W.runS (As := [.int x380239]) (rest := []) ⟨hx, hb, hml, hown, hts⟩ (c_J6_bitCount_0f7a4 l x380239) (va_cwS 1 hts gX7_produce_J6_bitCount_0f7a4 rfl rfl rfl (by decide +kernel) ⟨Nat.le_of_ble_eq_true rfl, Nat.le_of_ble_eq_true rfl⟩) preEq rfl rfl hl.1 rfl (lv_room (Nat.le_of_ble_eq_true rfl)) dX7_produce_107 ⟨Nat.le_of_ble_eq_true rfl, Nat.le_of_ble_eq_true rfl⟩) (fun r380240 hr380240 => ?_)
                subst hr380240
                refine lv_aload_n hx hb dX7_produce_110 rfl (lv_at hl 3 rfl) ?_
                obtain ⟨j380241, hj380241⟩ := wG_7 (cy := cy) (N := N) (T := T) (I := I) (Q := Q) (J := J) (hM.at 0 (by decide)) (hM.k 0 (by decide) rfl)
                refine va_get (D := (dC, dI)) (ci := 7) (v := .ref (T (w 0) 5)) (C := RX7) (T := TX7) (N := 18) hx hb hts hi7 hown hK hP j380241 hj380241 rfl 5 (by decide) (hts (.fieldLink RX7 28 "TallyLogsModel" "min" "[I") (by decide +kernel)) (fun _ h9 => h9) rfl dX7_produce_111 ?_
                refine W.eq (g2 := F0 m 114 ls [.ref (w 6), .int (sp_bc x380239)]) (by rw [hM.t 5 (by decide)]) ?_
                refine lv_iload_n hx hb dX7_produce_114 rfl (lv_at hl 4 rfl) ?_
                obtain ⟨j380242, hj380242⟩ := wG_20 (cy := cy) (N := N) (T := T) (I := I) (Q := Q) (J := J) (hM.at 6 (by decide)) (hM.k 6 (by decide) rfl)
                refine va_iald hx hb hK hP j380242 1 hj380242 rfl (hM.inN (n := 4) 6 (by decide) rfl rfl hth380004.1) dX7_produce_115 ?_
                refine lv_topi (fun x380243 ex380243 => ?_)
                have sx380243 : x380243 = σ.1 6 xp.toNatClampNeg := ex380243.trans (hMR.a (k := 6) (by decide) (by decide) (show _ < 4 from vp_lt (n := 4) hth380004.1))
                refine lv_icmp_ge (tgt := 122) hx hb dX7_produce_116 (by decide) (fun c380244 => ?_) (fun c380244 => ?_)
                · have kc380244 : x380243.toInt ≤ (sp_bc x380239).toInt := by have h9 := c380244; rw [xk_le] at h9; exact h9
                  refine lv_iload hx hb dX7_produce_122 (lv_at hl 1 rfl) ?_
                  refine lv_if_lt (tgt := 241) hx hb dX7_produce_124 (by decide) (fun c380245 => ?_) (fun c380245 => ?_)
                  · exact absurd ((xk_lt _ _).mp c380245) (by rw [xk_0]; have h9 := vp_in_iff.mp hin380081; omega)
                  refine lv_iconst (v := (-1)) hx hb dX7_produce_127 (by decide) ?_
                  refine lv_istore (lv' := [(10, .int (-1)), (9, .int v380083), (8, .int v380080), (7, .ref (w (21 + (5 * xp.toNatClampNeg + n380077)))), (0, .ref (w 0)), (1, .int xp), (2, .int xh), (3, .int xs), (4, .int xk), (5, .int xv), (6, .int al)]) hx hb dX7_produce_128 hl (by decide) rfl (fun ls hl => ?_)
                  refine lv_aload hx hb dX7_produce_130 (lv_at hl 3 rfl) ?_
                  obtain ⟨j380246, hj380246⟩ := wG_6 (cy := cy) (N := N) (T := T) (I := I) (Q := Q) (J := J) (hM.lg hjn380077).1 (hM.lg hjn380077).2
                  refine va_get (D := (dC, dI)) (ci := 6) (v := .int (I (w (21 + (5 * xp.toNatClampNeg + n380077))) 1)) (C := RX6) (T := TX6) (N := 7) hx hb hts hi6 hown hK hP j380246 hj380246 rfl 1 (by decide) (hts (.fieldLink RX7 134 "TallyLogsModel$Log" "start" "I") (by decide +kernel)) (fun _ h9 => h9) rfl dX7_produce_132 ?_
                  refine lv_topi (fun x380247 ex380247 => ?_)
                  have sx380247 : x380247 = σ.2.1 (5 * xp.toNatClampNeg + n380077) 1 := ex380247.trans (hMR.g hjn380077 (by decide) (by decide))
                  have tx380247 : x380247.toInt = (I (w (21 + (5 * xp.toNatClampNeg + n380077))) 1).toInt := congrArg Int32.toInt ex380247
                  refine lv_istore (lv' := [(11, .int x380247), (10, .int (-1)), (9, .int v380083), (8, .int v380080), (7, .ref (w (21 + (5 * xp.toNatClampNeg + n380077)))), (0, .ref (w 0)), (1, .int xp), (2, .int xh), (3, .int xs), (4, .int xk), (5, .int xv), (6, .int al)]) hx hb dX7_produce_135 hl (by decide) rfl (fun ls hl => ?_)
                  refine wq_gen (fun Qz hQz => ?_)
                  have hLP380248 : ∀ (n : Nat) (y380249 y380250 : Int32) (ls : Array Slot), ((I (w (21 + (5 * xp.toNatClampNeg + n380077))) 2).toInt - y380249.toInt).toNat < n → 0 ≤ y380249.toInt → ((I (w (21 + (5 * xp.toNatClampNeg + n380077))) 1).toInt ≤ y380249.toInt ∧ (y380250.toInt = -1 ∨ ((I (w (21 + (5 * xp.toNatClampNeg + n380077))) 1).toInt ≤ y380250.toInt ∧ y380250.toInt < (I (w (21 + (5 * xp.toNatClampNeg + n380077))) 2).toInt)) ∧ y380249.toInt ≤ (I (w (21 + (5 * xp.toNatClampNeg + n380077))) 2).toInt ∧ fU (pSq σ (5 * xp.toNatClampNeg + n380077) v380080 v380083 xs) (ze σ (5 * xp.toNatClampNeg + n380077) - y380249.toNatClampNeg) y380249.toNatClampNeg = fU (pSq σ (5 * xp.toNatClampNeg + n380077) v380080 v380083 xs) (ze σ (5 * xp.toNatClampNeg + n380077) - zb σ (5 * xp.toNatClampNeg + n380077)) (zb σ (5 * xp.toNatClampNeg + n380077)) ∧ y380250 = oLv (fD (pDt σ (5 * xp.toNatClampNeg + n380077) v380080 v380083) (zb σ (5 * xp.toNatClampNeg + n380077)) (y380249.toNatClampNeg - zb σ (5 * xp.toNatClampNeg + n380077)))) → lv_has ls 12 [(11, .int y380249), (10, .int y380250), (9, .int v380083), (8, .int v380080), (7, .ref (w (21 + (5 * xp.toNatClampNeg + n380077)))), (0, .ref (w 0)), (1, .int xp), (2, .int xh), (3, .int xs), (4, .int xk), (5, .int xv), (6, .int al)] → W p l e (headSpec wsX7_produce ({ frames := 4, cells := 0, slots := 0, locals := 99 })).room s m ([.ref (w 0), .int xp, .int xh, .int xs, .int xk, .int xv, .int al] : List Value).toArray below meth c s.heap [] 0 0 Qz (F0 m 137 ls []) := by
                    intro n
                    induction n with
                    | zero => intro y380249 y380250 ls hms; exact absurd hms (Nat.not_lt_zero _)
                    | succ n ih380248 =>
                      intro y380249 y380250 ls hms hnn380248 hiv380248 hl
                      obtain ⟨hiw, hiw2, hiw3, _⟩ := id hiv380248
                      refine lv_iload hx hb dX7_produce_137 (lv_at hl 0 rfl) ?_
                      refine lv_aload hx hb dX7_produce_139 (lv_at hl 4 rfl) ?_
                      obtain ⟨j380251, hj380251⟩ := wG_6 (cy := cy) (N := N) (T := T) (I := I) (Q := Q) (J := J) (hM.lg hjn380077).1 (hM.lg hjn380077).2
                      refine va_get (D := (dC, dI)) (ci := 6) (v := .int (I (w (21 + (5 * xp.toNatClampNeg + n380077))) 2)) (C := RX6) (T := TX6) (N := 7) hx hb hts hi6 hown hK hP j380251 hj380251 rfl 2 (by decide) (hts (.fieldLink RX7 89 "TallyLogsModel$Log" "end" "I") (by decide +kernel)) (fun _ h9 => h9) rfl dX7_produce_141 ?_
                      refine lv_topi (fun x380252 ex380252 => ?_)
                      have sx380252 : x380252 = σ.2.1 (5 * xp.toNatClampNeg + n380077) 2 := ex380252.trans (hMR.g hjn380077 (by decide) (by decide))
                      have tx380252 : x380252.toInt = (I (w (21 + (5 * xp.toNatClampNeg + n380077))) 2).toInt := congrArg Int32.toInt ex380252
                      refine lv_icmp_ge (tgt := 212) hx hb dX7_produce_144 (by decide) (fun c380253 => ?_) (fun c380253 => ?_)
                      · have kc380253 : x380252.toInt ≤ y380249.toInt := by have h9 := c380253; rw [xk_le] at h9; exact h9
                        have hfu : fU (pSq σ (5 * xp.toNatClampNeg + n380077) v380080 v380083 xs) (ze σ (5 * xp.toNatClampNeg + n380077) - zb σ (5 * xp.toNatClampNeg + n380077)) (zb σ (5 * xp.toNatClampNeg + n380077)) = none := by rw [← hiv380248.2.2.2.1, fU_end (hMR.gee hjn380077 (by omega))]
                        have hla : y380250 = oLv (fD (pDt σ (5 * xp.toNatClampNeg + n380077) v380080 v380083) (zb σ (5 * xp.toNatClampNeg + n380077)) (ze σ (5 * xp.toNatClampNeg + n380077) - zb σ (5 * xp.toNatClampNeg + n380077))) := by rw [hMR.eqe (y := y380249) hjn380077 (by omega)]; exact hiv380248.2.2.2.2
                        cases hfd : fD (pDt σ (5 * xp.toNatClampNeg + n380077) v380080 v380083) (zb σ (5 * xp.toNatClampNeg + n380077)) (ze σ (5 * xp.toNatClampNeg + n380077) - zb σ (5 * xp.toNatClampNeg + n380077)) with
                        | none =>
                          rw [hfd] at hla
                          have hla : y380250 = (-1) := hla
                          refine lv_iload hx hb dX7_produce_212 (lv_at hl 1 rfl) ?_
                          refine lv_if_ge (tgt := 224) hx hb dX7_produce_214 (by decide) (fun c380255 => ?_) (fun c380255 => ?_)
                          · exact absurd c380255 (by rw [hla]; decide)
                          refine lv_iload_n hx hb dX7_produce_217 rfl (lv_at hl 8 rfl) ?_
                          refine lv_if_eq (tgt := 241) hx hb dX7_produce_218 (by decide) (fun c380256 => ?_) (fun c380256 => ?_)
                          · have kc380256 : xs.toInt = 0 := by have h9 := c380256; rw [xk_eq, xk_0] at h9; exact h9
                            refine lv_aload hx hb dX7_produce_241 (lv_at hl 4 rfl) ?_
                            obtain ⟨j380258, hj380258⟩ := wG_6 (cy := cy) (N := N) (T := T) (I := I) (Q := Q) (J := J) (hM.lg hjn380077).1 (hM.lg hjn380077).2
                            refine vp_callSi (W.runV (As := []) (rest := []) ⟨hx, hb, hml, hown, hts⟩ (c_X6_many l dC dI cy w L K N T Q I J (5 * xp.toNatClampNeg + n380077) hM hjn380077) (cwV 0 hts gX7_produce_X6_many rfl rfl rfl (by decide +kernel) ⟨Nat.le_of_ble_eq_true rfl, Nat.le_of_ble_eq_true rfl⟩) ⟨mb_blind, va_recv hK hP (ci := 6) (q0 := j380258) rfl hj380258, fun U hU hW => ⟨rfl, mb_pre hP hK hU hW⟩⟩ rfl rfl hl.1 rfl (lv_room (Nat.le_of_ble_eq_true rfl)) dX7_produce_243 ⟨Nat.le_of_ble_eq_true rfl, Nat.le_of_ble_eq_true rfl⟩) (fun r380257 hr380257 => ?_)
                            obtain ⟨ha380259, hb380259, hc380259, hd380259, he380259, hf380259⟩ := hML (5 * xp.toNatClampNeg + n380077) hjn380077
                            have tr380257 : r380257.toInt = (I (w (21 + (5 * xp.toNatClampNeg + n380077))) 2).toInt - (I (w (21 + (5 * xp.toNatClampNeg + n380077))) 1).toInt := by rw [hr380257]; exact xsub (by omega) (by omega)
                            have hir380257 : r380257 = σ.2.1 (5 * xp.toNatClampNeg + n380077) 2 - σ.2.1 (5 * xp.toNatClampNeg + n380077) 1 := by rw [hr380257, hMR.g hjn380077 (by decide) (by decide), hMR.g hjn380077 (by decide) (by decide)]
                            refine lv_bipush (v := 60) hx hb dX7_produce_246 (by decide) ?_
                            refine lv_icmp_ne (tgt := 254) hx hb dX7_produce_248 (by decide) (fun c380260 => ?_) (fun c380260 => ?_)
                            · have kc380260 : ¬ (r380257.toInt = 60) := by have h9 := c380260; rw [xk_eq, (show (60 : Int32).toInt = 60 by decide)] at h9; exact h9
                              refine lv_iload hx hb dX7_produce_254 (lv_at hl 3 rfl) ?_
                              refine lv_if_lt (tgt := 274) hx hb dX7_produce_256 (by decide) (fun c380261 => ?_) (fun c380261 => ?_)
                              · exact absurd ((xk_lt _ _).mp c380261) (by rw [xk_0]; have h9 := vp_in_iff.mp hin380081; omega)
                              refine lv_aload_n hx hb dX7_produce_259 rfl (lv_at hl 5 rfl) ?_
                              obtain ⟨j380262, hj380262⟩ := wG_7 (cy := cy) (N := N) (T := T) (I := I) (Q := Q) (J := J) (hM.at 0 (by decide)) (hM.k 0 (by decide) rfl)
                              refine va_get (D := (dC, dI)) (ci := 7) (v := .ref (T (w 0) 8)) (C := RX7) (T := TX7) (N := 18) hx hb hts hi7 hown hK hP j380262 hj380262 rfl 8 (by decide) (hts (.fieldLink RX7 37 "TallyLogsModel" "mode" "[I") (by decide +kernel)) (fun _ h9 => h9) rfl dX7_produce_260 ?_
                              refine W.eq (g2 := F0 m 263 ls [.ref (w 9)]) (by rw [hM.t 8 (by decide)]) ?_
                              refine lv_iload hx hb dX7_produce_263 (lv_at hl 3 rfl) ?_
                              obtain ⟨j380263, hj380263⟩ := wG_20 (cy := cy) (N := N) (T := T) (I := I) (Q := Q) (J := J) (hM.at 9 (by decide)) (hM.k 9 (by decide) rfl)
                              refine va_iald hx hb hK hP j380263 1 hj380263 rfl (hM.inN (n := 6) 9 (by decide) rfl rfl hin380081) dX7_produce_265 ?_
                              refine lv_topi (fun x380264 ex380264 => ?_)
                              have sx380264 : x380264 = σ.1 9 v380080.toNatClampNeg := ex380264.trans (hMR.a (k := 9) (by decide) (by decide) (show _ < 6 from vp_lt (n := 6) hin380081))
                              refine lv_iconst (v := 1) hx hb dX7_produce_266 (by decide) ?_
                              refine lv_icmp_ne (tgt := 274) hx hb dX7_produce_267 (by decide) (fun c380265 => ?_) (fun c380265 => ?_)
                              · have kc380265 : ¬ (x380264.toInt = 1) := by have h9 := c380265; rw [xk_eq, xk_1] at h9; exact h9
                                refine lv_iconst (v := 0) hx hb dX7_produce_274 (by decide) ?_
                                refine lv_istore (lv' := [(10, .int 0), (11, .int y380249), (9, .int v380083), (8, .int v380080), (7, .ref (w (21 + (5 * xp.toNatClampNeg + n380077)))), (0, .ref (w 0)), (1, .int xp), (2, .int xh), (3, .int xs), (4, .int xk), (5, .int xv), (6, .int al)]) hx hb dX7_produce_275 hl (by decide) rfl (fun ls hl => ?_)
                                refine lv_aload hx hb dX7_produce_277 (lv_at hl 4 rfl) ?_
                                refine lv_aload_n hx hb dX7_produce_279 rfl (lv_at hl 5 rfl) ?_
                                obtain ⟨j380266, hj380266⟩ := wG_7 (cy := cy) (N := N) (T := T) (I := I) (Q := Q) (J := J) (hM.at 0 (by decide)) (hM.k 0 (by decide) rfl)
                                refine va_get (D := (dC, dI)) (ci := 7) (v := .ref (T (w 0) 4)) (C := RX7) (T := TX7) (N := 18) hx hb hts hi7 hown hK hP j380266 hj380266 rfl 4 (by decide) (hts (.fieldLink RX7 25 "TallyLogsModel" "epoch" "[I") (by decide +kernel)) (fun _ h9 => h9) rfl dX7_produce_280 ?_
                                refine W.eq (g2 := F0 m 283 ls [.ref (w 5), .ref (w (21 + (5 * xp.toNatClampNeg + n380077)))]) (by rw [hM.t 4 (by decide)]) ?_
                                refine lv_iload_n hx hb dX7_produce_283 rfl (lv_at hl 6 rfl) ?_
                                obtain ⟨j380267, hj380267⟩ := wG_20 (cy := cy) (N := N) (T := T) (I := I) (Q := Q) (J := J) (hM.at 5 (by decide)) (hM.k 5 (by decide) rfl)
                                refine va_iald hx hb hK hP j380267 1 hj380267 rfl (hM.inN (n := 4) 5 (by decide) rfl rfl hth380004.1) dX7_produce_284 ?_
                                refine lv_topi (fun x380268 ex380268 => ?_)
                                have sx380268 : x380268 = σ.1 5 xp.toNatClampNeg := ex380268.trans (hMR.a (k := 5) (by decide) (by decide) (show _ < 4 from vp_lt (n := 4) hth380004.1))
                                refine lv_iconst (v := 0) hx hb dX7_produce_285 (by decide) ?_
                                refine lv_iload hx hb dX7_produce_286 (lv_at hl 3 rfl) ?_
                                refine lv_iload hx hb dX7_produce_288 (lv_at hl 2 rfl) ?_
                                refine lv_iload hx hb dX7_produce_290 (lv_at hl 3 rfl) ?_
                                refine lv_if_ge (tgt := 299) hx hb dX7_produce_292 (by decide) (fun c380269 => ?_) (fun c380269 => ?_)
                                rotate_left
                                · exact absurd ((xk_le _ _).mpr (by rw [xk_0]; have h9 := vp_in_iff.mp hin380081; omega)) c380269
                                refine lv_iload_n hx hb dX7_produce_299 rfl (lv_at hl 8 rfl) ?_
                                refine lv_iload hx hb dX7_produce_300 (lv_at hl 9 rfl) ?_
                                refine lv_iload hx hb dX7_produce_302 (lv_at hl 10 rfl) ?_
                                refine lv_iload hx hb dX7_produce_304 (lv_at hl 0 rfl) ?_
                                refine lv_if_eq (tgt := 313) hx hb dX7_produce_306 (by decide) (fun c380270 => ?_) (fun c380270 => ?_)
                                rotate_left
                                · exact absurd c380270 (by decide)
                                refine lv_iconst (v := 0) hx hb dX7_produce_313 (by decide) ?_
                                obtain ⟨j380271, hj380271⟩ := wG_6 (cy := cy) (N := N) (T := T) (I := I) (Q := Q) (J := J) (hM.lg hjn380077).1 (hM.lg hjn380077).2
                                have hFc := pfree hD hS hA
                                refine va_callv (va_runV (As := [.int x380268, .int 0, .int v380080, .int v380083, .int xs, .int xk, .int xv, .int 0]) (rest := []) ⟨hx, hb, hml, hown, hts⟩ (f_X6_add l dC dI cy w L K N T Q I J s.heap.size (5 * xp.toNatClampNeg + n380077) x380268 0 v380080 v380083 xs xk xv 0 σ hM hjn380077 (by omega) (by omega) (by omega) (by omega) hMR) (cwV 8 hts gX7_produce_X6_add rfl rfl rfl (by decide +kernel) ⟨Nat.le_of_ble_eq_true rfl, Nat.le_of_ble_eq_true rfl⟩) ⟨mw_blind, va_recv hK hP (ci := 6) (q0 := j380271) rfl hj380271, fun U hU hW => ⟨rfl, mw_pre hP hK hD hU hW⟩⟩ rfl rfl hl.1 rfl (lv_room (Nat.le_of_ble_eq_true rfl)) dX7_produce_314 ⟨Nat.le_of_ble_eq_true rfl, Nat.le_of_ble_eq_true rfl⟩) hS (fun q _ h => hFc q h) hFc (fun d9 t H1 locs ht hvm hw hB hz1 hk1 hS => ?_)
                                obtain ⟨I380272, J380272⟩ := d9
                                obtain ⟨hP, hK1, hD1⟩ := hB
                                rw [ht] at hP
                                have hD := hD1.weaken (fun _ _ _ h => hFc _ h)
                                generalize H1 = H at hP hS ⊢
                                have hP : va_P (dC, dI) vwCl (va_pl L (wF cy K N T I380272 Q J380272)) H := hP
                                have hD : va_D A (va_pl L (wF cy K N T I380272 Q J380272)) := hD
                                have hMRn := hw.1
                                have hw := hw.2
                                have hw380274 : LW w I J I380272 J380272 (5 * xp.toNatClampNeg + n380077) _ _ := hw
                                have hR : RM w [] I J I380272 J380272 := hR.lw hM hjn380077 hw380274
                                have hMD : MD w J380272 := hMD.lw hM hjn380077 hw380274
                                have hMU : MU w I380272 := hMU.lw hM hjn380077 hw380274
                                have q1hw380274 : (I380272 (w (21 + (5 * xp.toNatClampNeg + n380077))) 1).toInt = _ := hw380274.2.2.1
                                have q2hw380274 : (I380272 (w (21 + (5 * xp.toNatClampNeg + n380077))) 2).toInt = _ := hw380274.2.2.2
                                have q3hw380274 : (I380272 (w (21 + (5 * xp.toNatClampNeg + n380077))) 3).toInt = _ := congrArg Int32.toInt hw380274.f3
                                have q4hw380274 : (I380272 (w (21 + (5 * xp.toNatClampNeg + n380077))) 4).toInt = _ := congrArg Int32.toInt hw380274.f4
                                have hML : ML w (E + 1) I380272 := hML.lw hM hjn380077 hw380274 (by omega) ⟨by omega, by omega, by omega, by omega, by omega, by omega⟩
                                obtain ⟨sg380275, esg380275⟩ : ∃ z, z = oAd σ (5 * xp.toNatClampNeg + n380077) (r8 x380268 0 v380080 v380083 xs xk xv 0) := ⟨_, rfl⟩
                                have hMR : MR w I380272 J380272 sg380275 := by rw [esg380275]; exact hMRn
                                refine lv_iload hx hb dX7_produce_317 (lv_at hl 0 rfl) ?_
                                refine lv_if_eq (tgt := 335) hx hb dX7_produce_319 (by decide) (fun c380276 => ?_) (fun c380276 => ?_)
                                rotate_left
                                · exact absurd c380276 (by decide)
                                refine lv_aload_n hx hb dX7_produce_335 rfl (lv_at hl 5 rfl) ?_
                                refine lv_iload_n hx hb dX7_produce_336 rfl (lv_at hl 6 rfl) ?_
                                obtain ⟨j380277, hj380277⟩ := wG_7 (cy := cy) (N := N) (T := T) (I := I380272) (Q := Q) (J := J380272) (hM.at 0 (by decide)) (hM.k 0 (by decide) rfl)
                                have hFc := pfree hD hS hA
                                refine va_callv (va_runV (As := [.int xp]) (rest := []) ⟨hx, hb, hml, hown, hts⟩ (f_X7_rise l dC dI cy w L K N T Q I380272 J380272 H.size xp sg380275 hM hth380004.1 (hMD _ (vp_lt (n := 4) hth380004.1)) hMR) (cwV 1 hts gX7_produce_X7_rise rfl rfl rfl (by decide +kernel) ⟨Nat.le_of_ble_eq_true rfl, Nat.le_of_ble_eq_true rfl⟩) ⟨mw_blind, va_recv hK hP (ci := 7) (q0 := j380277) rfl hj380277, fun U hU hW => ⟨rfl, mw_pre hP hK hD hU hW⟩⟩ rfl rfl hl.1 rfl (lv_room (Nat.le_of_ble_eq_true rfl)) dX7_produce_337 ⟨Nat.le_of_ble_eq_true rfl, Nat.le_of_ble_eq_true rfl⟩) hS (fun q _ h => hFc q h) hFc (fun d9 t H1 locs ht hvm hw hB hz1 hk1 hS => ?_)
                                obtain ⟨I380278, J380278⟩ := d9
                                obtain ⟨hP, hK1, hD1⟩ := hB
                                rw [ht] at hP
                                have hD := hD1.weaken (fun _ _ _ h => hFc _ h)
                                generalize H1 = H at hP hS ⊢
                                have hP : va_P (dC, dI) vwCl (va_pl L (wF cy K N T I380278 Q J380278)) H := hP
                                have hD : va_D A (va_pl L (wF cy K N T I380278 Q J380278)) := hD
                                have hMRn := hw.1
                                have hw := hw.2
                                have hw380280 : RZ w I380272 J380272 I380278 J380278 xp.toNatClampNeg := hw
                                have hR : RM w [] I J I380278 J380278 := hR.rz hM (vp_lt (n := 4) hth380004.1) hw380280
                                have hMD : MD w J380278 := hMD.rz hw380280
                                have hMU : MU w I380278 := hMU.rz hM (vp_lt (n := 4) hth380004.1) hw380280
                                have hML : ML w (E + 1) I380278 := hML.rz hM (vp_lt (n := 4) hth380004.1) hw380280
                                obtain ⟨sg380281, esg380281⟩ : ∃ z, z = oRi sg380275 xp.toNatClampNeg := ⟨_, rfl⟩
                                have hMR : MR w I380278 J380278 sg380281 := by rw [esg380281]; exact hMRn
                                refine lv_aload hx hb dX7_produce_340 (lv_at hl 4 rfl) ?_
                                obtain ⟨j380282, hj380282⟩ := wG_6 (cy := cy) (N := N) (T := T) (I := I380278) (Q := Q) (J := J380278) (hM.lg hjn380077).1 (hM.lg hjn380077).2
                                refine va_get (D := (dC, dI)) (ci := 6) (v := .int (I380278 (w (21 + (5 * xp.toNatClampNeg + n380077))) 2)) (C := RX6) (T := TX6) (N := 7) hx hb hts hi6 hown hK hP j380282 hj380282 rfl 2 (by decide) (hts (.fieldLink RX7 89 "TallyLogsModel$Log" "end" "I") (by decide +kernel)) (fun _ h9 => h9) rfl dX7_produce_342 ?_
                                refine lv_topi (fun x380283 ex380283 => ?_)
                                have sx380283 : x380283 = sg380281.2.1 (5 * xp.toNatClampNeg + n380077) 2 := ex380283.trans (hMR.g hjn380077 (by decide) (by decide))
                                have tx380283 : x380283.toInt = (I380278 (w (21 + (5 * xp.toNatClampNeg + n380077))) 2).toInt := congrArg Int32.toInt ex380283
                                refine lv_iconst (v := 1) hx hb dX7_produce_345 (by decide) ?_
                                refine lv_isub hx hb dX7_produce_346 ?_
                                refine lv_topi (fun v380284 ev380284 => ?_)
                                rw [hQz]
                                exact W.iret (v := v380284) hx hb hr (fun t ht hW => ⟨⟨v380284, (I380278, J380278), rfl, ⟨⟨hML.mono (by omega), hMD, hMU⟩, by have e9 : qPr σ xp xh xs xk xv al = (sg380281, v380284) := (by have hk9 : xh - xh / 8 * 8 = v380080 := (by simp only [ev380080]); have hg9 : xh / 8 = v380083 := (by simp only [ev380083]); rw [qPr, if_neg (by have k9 := c380003; simp only [hir380001] at k9; exact k9), if_neg (fun q => c380073 q.2), oqn380077]; show (if _ then _ else _) = _; rw [if_neg c380005]; rw [if_neg (fun q => q.elim (fun z => z (by have k9 := c380088; simp only [sx380087, ev380080, ev380083] at k9; exact k9)) (by have k9 := c380092; simp only [sx380091, ev380080] at k9; exact k9))]; rw [if_neg (fun q => q.2 (by have k9 := c380244; simp only [sx380239, sx380243] at k9; exact k9))]; rw [hk9, hg9, hfu]; show (match fD _ _ _ with | none => _ | some q => _) = _; rw [hfd]; show (if _ then _ else _) = _; rw [if_pos c380256]; rw [if_neg (by have k9 := c380260; simp only [hir380257] at k9; exact k9)]; have ha9 : v380284 = σ.2.1 (5 * xp.toNatClampNeg + n380077) 2 := (by rw [ev380284, sx380283, esg380281, oRi_g (by decide)]; simp only [esg380275, sx380268, ev380080, ev380083]; rw [oAd_e]; exact Int32.add_sub_cancel _ _); rw [ha9]; refine Prod.ext ?_ rfl; show oPr _ _ _ _ _ _ _ _ = _; have hxp9 : nI xp.toNatClampNeg = xp := (xnI hth380004.1 (by decide)).symm; rw [oPr, if_neg (fun q => absurd q.2 (by have k9 := c380265; simp only [sx380264] at k9; exact k9)), if_neg (by have h9 := vp_in_iff.mp hin380081; rw [xk_lt, xk_0]; omega)]; rw [esg380281]; simp only [esg380275, sx380268, ev380080, ev380083, hxp9] <;> rfl); show MR w I380278 J380278 _; rw [e9]; exact hMR, by have e9 : qPr σ xp xh xs xk xv al = (sg380281, v380284) := (by have hk9 : xh - xh / 8 * 8 = v380080 := (by simp only [ev380080]); have hg9 : xh / 8 = v380083 := (by simp only [ev380083]); rw [qPr, if_neg (by have k9 := c380003; simp only [hir380001] at k9; exact k9), if_neg (fun q => c380073 q.2), oqn380077]; show (if _ then _ else _) = _; rw [if_neg c380005]; rw [if_neg (fun q => q.elim (fun z => z (by have k9 := c380088; simp only [sx380087, ev380080, ev380083] at k9; exact k9)) (by have k9 := c380092; simp only [sx380091, ev380080] at k9; exact k9))]; rw [if_neg (fun q => q.2 (by have k9 := c380244; simp only [sx380239, sx380243] at k9; exact k9))]; rw [hk9, hg9, hfu]; show (match fD _ _ _ with | none => _ | some q => _) = _; rw [hfd]; show (if _ then _ else _) = _; rw [if_pos c380256]; rw [if_neg (by have k9 := c380260; simp only [hir380257] at k9; exact k9)]; have ha9 : v380284 = σ.2.1 (5 * xp.toNatClampNeg + n380077) 2 := (by rw [ev380284, sx380283, esg380281, oRi_g (by decide)]; simp only [esg380275, sx380268, ev380080, ev380083]; rw [oAd_e]; exact Int32.add_sub_cancel _ _); rw [ha9]; refine Prod.ext ?_ rfl; show oPr _ _ _ _ _ _ _ _ = _; have hxp9 : nI xp.toNatClampNeg = xp := (xnI hth380004.1 (by decide)).symm; rw [oPr, if_neg (fun q => absurd q.2 (by have k9 := c380265; simp only [sx380264] at k9; exact k9)), if_neg (by have h9 := vp_in_iff.mp hin380081; rw [xk_lt, xk_0]; omega)]; rw [esg380281]; simp only [esg380275, sx380268, ev380080, ev380083, hxp9] <;> rfl); show _ = _; rw [e9]⟩, by rw [ht]; exact hP, va_K.moved hW.alike hK, hD⟩, hS.F ht⟩) hS.2.2 dX7_produce_347
                              · have kc380265 : x380264.toInt = 1 := by have h9 := c380265; rw [xk_eq, xk_1] at h9; exact h9
                                refine lv_iconst (v := 1) hx hb dX7_produce_270 (by decide) ?_
                                refine lv_goto (tgt := 275) hx hb dX7_produce_271 (by decide) ?_
                                refine lv_istore (lv' := [(10, .int 1), (11, .int y380249), (9, .int v380083), (8, .int v380080), (7, .ref (w (21 + (5 * xp.toNatClampNeg + n380077)))), (0, .ref (w 0)), (1, .int xp), (2, .int xh), (3, .int xs), (4, .int xk), (5, .int xv), (6, .int al)]) hx hb dX7_produce_275 hl (by decide) rfl (fun ls hl => ?_)
                                refine lv_aload hx hb dX7_produce_277 (lv_at hl 4 rfl) ?_
                                refine lv_aload_n hx hb dX7_produce_279 rfl (lv_at hl 5 rfl) ?_
                                obtain ⟨j380285, hj380285⟩ := wG_7 (cy := cy) (N := N) (T := T) (I := I) (Q := Q) (J := J) (hM.at 0 (by decide)) (hM.k 0 (by decide) rfl)
                                refine va_get (D := (dC, dI)) (ci := 7) (v := .ref (T (w 0) 4)) (C := RX7) (T := TX7) (N := 18) hx hb hts hi7 hown hK hP j380285 hj380285 rfl 4 (by decide) (hts (.fieldLink RX7 25 "TallyLogsModel" "epoch" "[I") (by decide +kernel)) (fun _ h9 => h9) rfl dX7_produce_280 ?_
                                refine W.eq (g2 := F0 m 283 ls [.ref (w 5), .ref (w (21 + (5 * xp.toNatClampNeg + n380077)))]) (by rw [hM.t 4 (by decide)]) ?_
                                refine lv_iload_n hx hb dX7_produce_283 rfl (lv_at hl 6 rfl) ?_
                                obtain ⟨j380286, hj380286⟩ := wG_20 (cy := cy) (N := N) (T := T) (I := I) (Q := Q) (J := J) (hM.at 5 (by decide)) (hM.k 5 (by decide) rfl)
                                refine va_iald hx hb hK hP j380286 1 hj380286 rfl (hM.inN (n := 4) 5 (by decide) rfl rfl hth380004.1) dX7_produce_284 ?_
                                refine lv_topi (fun x380287 ex380287 => ?_)
                                have sx380287 : x380287 = σ.1 5 xp.toNatClampNeg := ex380287.trans (hMR.a (k := 5) (by decide) (by decide) (show _ < 4 from vp_lt (n := 4) hth380004.1))
                                refine lv_iconst (v := 0) hx hb dX7_produce_285 (by decide) ?_
                                refine lv_iload hx hb dX7_produce_286 (lv_at hl 3 rfl) ?_
                                refine lv_iload hx hb dX7_produce_288 (lv_at hl 2 rfl) ?_
                                refine lv_iload hx hb dX7_produce_290 (lv_at hl 3 rfl) ?_
                                refine lv_if_ge (tgt := 299) hx hb dX7_produce_292 (by decide) (fun c380288 => ?_) (fun c380288 => ?_)
                                rotate_left
                                · exact absurd ((xk_le _ _).mpr (by rw [xk_0]; have h9 := vp_in_iff.mp hin380081; omega)) c380288
                                refine lv_iload_n hx hb dX7_produce_299 rfl (lv_at hl 8 rfl) ?_
                                refine lv_iload hx hb dX7_produce_300 (lv_at hl 9 rfl) ?_
                                refine lv_iload hx hb dX7_produce_302 (lv_at hl 10 rfl) ?_
                                refine lv_iload hx hb dX7_produce_304 (lv_at hl 0 rfl) ?_
                                refine lv_if_eq (tgt := 313) hx hb dX7_produce_306 (by decide) (fun c380289 => ?_) (fun c380289 => ?_)
                                · exact absurd c380289 (by decide)
                                refine lv_iconst (v := 1) hx hb dX7_produce_309 (by decide) ?_
                                refine lv_goto (tgt := 314) hx hb dX7_produce_310 (by decide) ?_
                                obtain ⟨j380290, hj380290⟩ := wG_6 (cy := cy) (N := N) (T := T) (I := I) (Q := Q) (J := J) (hM.lg hjn380077).1 (hM.lg hjn380077).2
                                have hFc := pfree hD hS hA
                                refine va_callv (va_runV (As := [.int x380287, .int 0, .int v380080, .int v380083, .int xs, .int xk, .int xv, .int 1]) (rest := []) ⟨hx, hb, hml, hown, hts⟩ (f_X6_add l dC dI cy w L K N T Q I J s.heap.size (5 * xp.toNatClampNeg + n380077) x380287 0 v380080 v380083 xs xk xv 1 σ hM hjn380077 (by omega) (by omega) (by omega) (by omega) hMR) (cwV 8 hts gX7_produce_X6_add rfl rfl rfl (by decide +kernel) ⟨Nat.le_of_ble_eq_true rfl, Nat.le_of_ble_eq_true rfl⟩) ⟨mw_blind, va_recv hK hP (ci := 6) (q0 := j380290) rfl hj380290, fun U hU hW => ⟨rfl, mw_pre hP hK hD hU hW⟩⟩ rfl rfl hl.1 rfl (lv_room (Nat.le_of_ble_eq_true rfl)) dX7_produce_314 ⟨Nat.le_of_ble_eq_true rfl, Nat.le_of_ble_eq_true rfl⟩) hS (fun q _ h => hFc q h) hFc (fun d9 t H1 locs ht hvm hw hB hz1 hk1 hS => ?_)
                                obtain ⟨I380291, J380291⟩ := d9
                                obtain ⟨hP, hK1, hD1⟩ := hB
                                rw [ht] at hP
                                have hD := hD1.weaken (fun _ _ _ h => hFc _ h)
                                generalize H1 = H at hP hS ⊢
                                have hP : va_P (dC, dI) vwCl (va_pl L (wF cy K N T I380291 Q J380291)) H := hP
                                have hD : va_D A (va_pl L (wF cy K N T I380291 Q J380291)) := hD
                                have hMRn := hw.1
                                have hw := hw.2
                                have hw380293 : LW w I J I380291 J380291 (5 * xp.toNatClampNeg + n380077) _ _ := hw
                                have hR : RM w [] I J I380291 J380291 := hR.lw hM hjn380077 hw380293
                                have hMD : MD w J380291 := hMD.lw hM hjn380077 hw380293
                                have hMU : MU w I380291 := hMU.lw hM hjn380077 hw380293
                                have q1hw380293 : (I380291 (w (21 + (5 * xp.toNatClampNeg + n380077))) 1).toInt = _ := hw380293.2.2.1
                                have q2hw380293 : (I380291 (w (21 + (5 * xp.toNatClampNeg + n380077))) 2).toInt = _ := hw380293.2.2.2
                                have q3hw380293 : (I380291 (w (21 + (5 * xp.toNatClampNeg + n380077))) 3).toInt = _ := congrArg Int32.toInt hw380293.f3
                                have q4hw380293 : (I380291 (w (21 + (5 * xp.toNatClampNeg + n380077))) 4).toInt = _ := congrArg Int32.toInt hw380293.f4
                                have hML : ML w (E + 1) I380291 := hML.lw hM hjn380077 hw380293 (by omega) ⟨by omega, by omega, by omega, by omega, by omega, by omega⟩
                                obtain ⟨sg380294, esg380294⟩ : ∃ z, z = oAd σ (5 * xp.toNatClampNeg + n380077) (r8 x380287 0 v380080 v380083 xs xk xv 1) := ⟨_, rfl⟩
                                have hMR : MR w I380291 J380291 sg380294 := by rw [esg380294]; exact hMRn
                                refine lv_iload hx hb dX7_produce_317 (lv_at hl 0 rfl) ?_
                                refine lv_if_eq (tgt := 335) hx hb dX7_produce_319 (by decide) (fun c380295 => ?_) (fun c380295 => ?_)
                                · exact absurd c380295 (by decide)
                                refine lv_aload_n hx hb dX7_produce_322 rfl (lv_at hl 5 rfl) ?_
                                obtain ⟨j380296, hj380296⟩ := wG_7 (cy := cy) (N := N) (T := T) (I := I380291) (Q := Q) (J := J380291) (hM.at 0 (by decide)) (hM.k 0 (by decide) rfl)
                                refine va_get (D := (dC, dI)) (ci := 7) (v := .ref (T (w 0) 9)) (C := RX7) (T := TX7) (N := 18) hx hb hts hi7 hown hK hP j380296 hj380296 rfl 9 (by decide) (hts (.fieldLink RX7 40 "TallyLogsModel" "bound" "[I") (by decide +kernel)) (fun _ h9 => h9) rfl dX7_produce_323 ?_
                                refine W.eq (g2 := F0 m 326 ls [.ref (w 10)]) (by rw [hM.t 9 (by decide)]) ?_
                                refine lv_iload hx hb dX7_produce_326 (lv_at hl 3 rfl) ?_
                                refine lv_dup2_11 hx hb dX7_produce_328 rfl rfl ?_
                                obtain ⟨j380297, hj380297⟩ := wG_20 (cy := cy) (N := N) (T := T) (I := I380291) (Q := Q) (J := J380291) (hM.at 10 (by decide)) (hM.k 10 (by decide) rfl)
                                refine va_iald hx hb hK hP j380297 1 hj380297 rfl (hM.inN (n := 6) 10 (by decide) rfl rfl hin380081) dX7_produce_329 ?_
                                refine lv_topi (fun x380298 ex380298 => ?_)
                                have sx380298 : x380298 = sg380294.1 10 v380080.toNatClampNeg := ex380298.trans (hMR.a (k := 10) (by decide) (by decide) (show _ < 6 from vp_lt (n := 6) hin380081))
                                refine lv_iconst (v := 1) hx hb dX7_produce_330 (by decide) ?_
                                refine lv_iload_n hx hb dX7_produce_331 rfl (lv_at hl 6 rfl) ?_
                                refine lv_ishl hx hb dX7_produce_332 ?_
                                refine lv_topi (fun v380299 ev380299 => ?_)
                                refine lv_ior hx hb dX7_produce_333 ?_
                                refine lv_topi (fun v380300 ev380300 => ?_)
                                obtain ⟨j380301, hj380301⟩ := wG_20 (cy := cy) (N := N) (T := T) (I := I380291) (Q := Q) (J := J380291) (hM.at 10 (by decide)) (hM.k 10 (by decide) rfl)
                                have hDo := hD
                                refine va_iast (x := v380300) hx hb hK hP hD hS j380301 1 hj380301 rfl (hM.inN (n := 6) 10 (by decide) rfl rfl hin380081) dX7_produce_334 (fun H locs hP hD hS => ?_)
                                have hP := Eq.mp (congrArg (fun w => va_P (dC, dI) vwCl w H) (wS_20 hDo (hM.at 10 (by decide)) (hM.k 10 (by decide) rfl) hj380301)) hP
                                obtain ⟨J380302, eJ380302⟩ : ∃ z, z = va_up J380291 (w 10) (upd (J380291 (w 10)) v380080.toNatClampNeg v380300) := ⟨_, rfl⟩
                                rw [← eJ380302] at hP
                                have hR : RM w [] I J I380291 J380302 := by rw [eJ380302]; exact hR.pj hM (by decide) (by decide)
                                have hMD : MD w J380302 := by rw [eJ380302]; exact hMD.pj hM (by decide) (by decide)
                                have hD : va_D A (va_pl L (wF cy K N T I380291 Q J380302)) := pD hDo
                                obtain ⟨sg380303, esg380303⟩ : ∃ z, z = sA sg380294 10 v380080.toNatClampNeg v380300 := ⟨_, rfl⟩
                                have hMR : MR w I380291 J380302 sg380303 := by rw [eJ380302, esg380303]; exact hMR.wa hM (by decide) (by decide)
                                refine lv_aload_n hx hb dX7_produce_335 rfl (lv_at hl 5 rfl) ?_
                                refine lv_iload_n hx hb dX7_produce_336 rfl (lv_at hl 6 rfl) ?_
                                obtain ⟨j380304, hj380304⟩ := wG_7 (cy := cy) (N := N) (T := T) (I := I380291) (Q := Q) (J := J380302) (hM.at 0 (by decide)) (hM.k 0 (by decide) rfl)
                                have hFc := pfree hD hS hA
                                refine va_callv (va_runV (As := [.int xp]) (rest := []) ⟨hx, hb, hml, hown, hts⟩ (f_X7_rise l dC dI cy w L K N T Q I380291 J380302 H.size xp sg380303 hM hth380004.1 (hMD _ (vp_lt (n := 4) hth380004.1)) hMR) (cwV 1 hts gX7_produce_X7_rise rfl rfl rfl (by decide +kernel) ⟨Nat.le_of_ble_eq_true rfl, Nat.le_of_ble_eq_true rfl⟩) ⟨mw_blind, va_recv hK hP (ci := 7) (q0 := j380304) rfl hj380304, fun U hU hW => ⟨rfl, mw_pre hP hK hD hU hW⟩⟩ rfl rfl hl.1 rfl (lv_room (Nat.le_of_ble_eq_true rfl)) dX7_produce_337 ⟨Nat.le_of_ble_eq_true rfl, Nat.le_of_ble_eq_true rfl⟩) hS (fun q _ h => hFc q h) hFc (fun d9 t H1 locs ht hvm hw hB hz1 hk1 hS => ?_)
                                obtain ⟨I380305, J380305⟩ := d9
                                obtain ⟨hP, hK1, hD1⟩ := hB
                                rw [ht] at hP
                                have hD := hD1.weaken (fun _ _ _ h => hFc _ h)
                                generalize H1 = H at hP hS ⊢
                                have hP : va_P (dC, dI) vwCl (va_pl L (wF cy K N T I380305 Q J380305)) H := hP
                                have hD : va_D A (va_pl L (wF cy K N T I380305 Q J380305)) := hD
                                have hMRn := hw.1
                                have hw := hw.2
                                have hw380307 : RZ w I380291 J380302 I380305 J380305 xp.toNatClampNeg := hw
                                have hR : RM w [] I J I380305 J380305 := hR.rz hM (vp_lt (n := 4) hth380004.1) hw380307
                                have hMD : MD w J380305 := hMD.rz hw380307
                                have hMU : MU w I380305 := hMU.rz hM (vp_lt (n := 4) hth380004.1) hw380307
                                have hML : ML w (E + 1) I380305 := hML.rz hM (vp_lt (n := 4) hth380004.1) hw380307
                                obtain ⟨sg380308, esg380308⟩ : ∃ z, z = oRi sg380303 xp.toNatClampNeg := ⟨_, rfl⟩
                                have hMR : MR w I380305 J380305 sg380308 := by rw [esg380308]; exact hMRn
                                refine lv_aload hx hb dX7_produce_340 (lv_at hl 4 rfl) ?_
                                obtain ⟨j380309, hj380309⟩ := wG_6 (cy := cy) (N := N) (T := T) (I := I380305) (Q := Q) (J := J380305) (hM.lg hjn380077).1 (hM.lg hjn380077).2
                                refine va_get (D := (dC, dI)) (ci := 6) (v := .int (I380305 (w (21 + (5 * xp.toNatClampNeg + n380077))) 2)) (C := RX6) (T := TX6) (N := 7) hx hb hts hi6 hown hK hP j380309 hj380309 rfl 2 (by decide) (hts (.fieldLink RX7 89 "TallyLogsModel$Log" "end" "I") (by decide +kernel)) (fun _ h9 => h9) rfl dX7_produce_342 ?_
                                refine lv_topi (fun x380310 ex380310 => ?_)
                                have sx380310 : x380310 = sg380308.2.1 (5 * xp.toNatClampNeg + n380077) 2 := ex380310.trans (hMR.g hjn380077 (by decide) (by decide))
                                have tx380310 : x380310.toInt = (I380305 (w (21 + (5 * xp.toNatClampNeg + n380077))) 2).toInt := congrArg Int32.toInt ex380310
                                refine lv_iconst (v := 1) hx hb dX7_produce_345 (by decide) ?_
                                refine lv_isub hx hb dX7_produce_346 ?_
                                refine lv_topi (fun v380311 ev380311 => ?_)
                                rw [hQz]
                                exact W.iret (v := v380311) hx hb hr (fun t ht hW => ⟨⟨v380311, (I380305, J380305), rfl, ⟨⟨hML.mono (by omega), hMD, hMU⟩, by have e9 : qPr σ xp xh xs xk xv al = (sg380308, v380311) := (by have hk9 : xh - xh / 8 * 8 = v380080 := (by simp only [ev380080]); have hg9 : xh / 8 = v380083 := (by simp only [ev380083]); rw [qPr, if_neg (by have k9 := c380003; simp only [hir380001] at k9; exact k9), if_neg (fun q => c380073 q.2), oqn380077]; show (if _ then _ else _) = _; rw [if_neg c380005]; rw [if_neg (fun q => q.elim (fun z => z (by have k9 := c380088; simp only [sx380087, ev380080, ev380083] at k9; exact k9)) (by have k9 := c380092; simp only [sx380091, ev380080] at k9; exact k9))]; rw [if_neg (fun q => q.2 (by have k9 := c380244; simp only [sx380239, sx380243] at k9; exact k9))]; rw [hk9, hg9, hfu]; show (match fD _ _ _ with | none => _ | some q => _) = _; rw [hfd]; show (if _ then _ else _) = _; rw [if_pos c380256]; rw [if_neg (by have k9 := c380260; simp only [hir380257] at k9; exact k9)]; have ha9 : v380311 = σ.2.1 (5 * xp.toNatClampNeg + n380077) 2 := (by rw [ev380311, sx380310, esg380308, oRi_g (by decide)]; simp only [esg380303, ev380080, ev380300, sx380298, ev380299, esg380294, sx380287, ev380083]; rw [sA_2, oAd_e]; exact Int32.add_sub_cancel _ _); rw [ha9]; refine Prod.ext ?_ rfl; show oPr _ _ _ _ _ _ _ _ = _; have hxp9 : nI xp.toNatClampNeg = xp := (xnI hth380004.1 (by decide)).symm; rw [oPr, if_pos ⟨(by have h9 := vp_in_iff.mp hin380081; rw [xk_lt, xk_0]; omega), (by have k9 := c380265; simp only [sx380264] at k9; exact k9)⟩]; rw [esg380308]; simp only [esg380303, ev380080, ev380300, sx380298, ev380299, esg380294, sx380287, ev380083, hxp9] <;> rfl); show MR w I380305 J380305 _; rw [e9]; exact hMR, by have e9 : qPr σ xp xh xs xk xv al = (sg380308, v380311) := (by have hk9 : xh - xh / 8 * 8 = v380080 := (by simp only [ev380080]); have hg9 : xh / 8 = v380083 := (by simp only [ev380083]); rw [qPr, if_neg (by have k9 := c380003; simp only [hir380001] at k9; exact k9), if_neg (fun q => c380073 q.2), oqn380077]; show (if _ then _ else _) = _; rw [if_neg c380005]; rw [if_neg (fun q => q.elim (fun z => z (by have k9 := c380088; simp only [sx380087, ev380080, ev380083] at k9; exact k9)) (by have k9 := c380092; simp only [sx380091, ev380080] at k9; exact k9))]; rw [if_neg (fun q => q.2 (by have k9 := c380244; simp only [sx380239, sx380243] at k9; exact k9))]; rw [hk9, hg9, hfu]; show (match fD _ _ _ with | none => _ | some q => _) = _; rw [hfd]; show (if _ then _ else _) = _; rw [if_pos c380256]; rw [if_neg (by have k9 := c380260; simp only [hir380257] at k9; exact k9)]; have ha9 : v380311 = σ.2.1 (5 * xp.toNatClampNeg + n380077) 2 := (by rw [ev380311, sx380310, esg380308, oRi_g (by decide)]; simp only [esg380303, ev380080, ev380300, sx380298, ev380299, esg380294, sx380287, ev380083]; rw [sA_2, oAd_e]; exact Int32.add_sub_cancel _ _); rw [ha9]; refine Prod.ext ?_ rfl; show oPr _ _ _ _ _ _ _ _ = _; have hxp9 : nI xp.toNatClampNeg = xp := (xnI hth380004.1 (by decide)).symm; rw [oPr, if_pos ⟨(by have h9 := vp_in_iff.mp hin380081; rw [xk_lt, xk_0]; omega), (by have k9 := c380265; simp only [sx380264] at k9; exact k9)⟩]; rw [esg380308]; simp only [esg380303, ev380080, ev380300, sx380298, ev380299, esg380294, sx380287, ev380083, hxp9] <;> rfl); show _ = _; rw [e9]⟩, by rw [ht]; exact hP, va_K.moved hW.alike hK, hD⟩, hS.F ht⟩) hS.2.2 dX7_produce_347
                            · have kc380260 : r380257.toInt = 60 := by have h9 := c380260; rw [xk_eq, (show (60 : Int32).toInt = 60 by decide)] at h9; exact h9
                              refine lv_bipush (v := (-3)) hx hb dX7_produce_251 (by decide) ?_
                              rw [hQz]
                              exact W.iret (v := (-3)) hx hb hr (fun t ht hW => ⟨⟨(-3), (I, J), rfl, ⟨⟨hML.mono (by omega), hMD, hMU⟩, by have e9 : qPr σ xp xh xs xk xv al = (σ, (-3)) := (by have hk9 : xh - xh / 8 * 8 = v380080 := (by simp only [ev380080]); have hg9 : xh / 8 = v380083 := (by simp only [ev380083]); rw [qPr, if_neg (by have k9 := c380003; simp only [hir380001] at k9; exact k9), if_neg (fun q => c380073 q.2), oqn380077]; show (if _ then _ else _) = _; rw [if_neg c380005]; rw [if_neg (fun q => q.elim (fun z => z (by have k9 := c380088; simp only [sx380087, ev380080, ev380083] at k9; exact k9)) (by have k9 := c380092; simp only [sx380091, ev380080] at k9; exact k9))]; rw [if_neg (fun q => q.2 (by have k9 := c380244; simp only [sx380239, sx380243] at k9; exact k9))]; rw [hk9, hg9, hfu]; show (match fD _ _ _ with | none => _ | some q => _) = _; rw [hfd]; show (if _ then _ else _) = _; rw [if_pos c380256]; rw [if_pos (by have k9 := c380260; simp only [hir380257] at k9; exact k9)]); show MR w I J _; rw [e9]; exact hMR, by have e9 : qPr σ xp xh xs xk xv al = (σ, (-3)) := (by have hk9 : xh - xh / 8 * 8 = v380080 := (by simp only [ev380080]); have hg9 : xh / 8 = v380083 := (by simp only [ev380083]); rw [qPr, if_neg (by have k9 := c380003; simp only [hir380001] at k9; exact k9), if_neg (fun q => c380073 q.2), oqn380077]; show (if _ then _ else _) = _; rw [if_neg c380005]; rw [if_neg (fun q => q.elim (fun z => z (by have k9 := c380088; simp only [sx380087, ev380080, ev380083] at k9; exact k9)) (by have k9 := c380092; simp only [sx380091, ev380080] at k9; exact k9))]; rw [if_neg (fun q => q.2 (by have k9 := c380244; simp only [sx380239, sx380243] at k9; exact k9))]; rw [hk9, hg9, hfu]; show (match fD _ _ _ with | none => _ | some q => _) = _; rw [hfd]; show (if _ then _ else _) = _; rw [if_pos c380256]; rw [if_pos (by have k9 := c380260; simp only [hir380257] at k9; exact k9)]); show _ = _; rw [e9]⟩, by rw [ht]; exact hP, va_K.moved hW.alike hK, hD⟩, hS.F ht⟩) hS.2.2 dX7_produce_253
                          · have kc380256 : ¬ (xs.toInt = 0) := by have h9 := c380256; rw [xk_eq, xk_0] at h9; exact h9
                            refine lv_goto (tgt := 238) hx hb dX7_produce_221 (by decide) ?_
                            refine lv_bipush (v := (-6)) hx hb dX7_produce_238 (by decide) ?_
                            rw [hQz]
                            exact W.iret (v := (-6)) hx hb hr (fun t ht hW => ⟨⟨(-6), (I, J), rfl, ⟨⟨hML.mono (by omega), hMD, hMU⟩, by have e9 : qPr σ xp xh xs xk xv al = (σ, (-6)) := (by have hk9 : xh - xh / 8 * 8 = v380080 := (by simp only [ev380080]); have hg9 : xh / 8 = v380083 := (by simp only [ev380083]); rw [qPr, if_neg (by have k9 := c380003; simp only [hir380001] at k9; exact k9), if_neg (fun q => c380073 q.2), oqn380077]; show (if _ then _ else _) = _; rw [if_neg c380005]; rw [if_neg (fun q => q.elim (fun z => z (by have k9 := c380088; simp only [sx380087, ev380080, ev380083] at k9; exact k9)) (by have k9 := c380092; simp only [sx380091, ev380080] at k9; exact k9))]; rw [if_neg (fun q => q.2 (by have k9 := c380244; simp only [sx380239, sx380243] at k9; exact k9))]; rw [hk9, hg9, hfu]; show (match fD _ _ _ with | none => _ | some q => _) = _; rw [hfd]; show (if _ then _ else _) = _; rw [if_neg c380256]); show MR w I J _; rw [e9]; exact hMR, by have e9 : qPr σ xp xh xs xk xv al = (σ, (-6)) := (by have hk9 : xh - xh / 8 * 8 = v380080 := (by simp only [ev380080]); have hg9 : xh / 8 = v380083 := (by simp only [ev380083]); rw [qPr, if_neg (by have k9 := c380003; simp only [hir380001] at k9; exact k9), if_neg (fun q => c380073 q.2), oqn380077]; show (if _ then _ else _) = _; rw [if_neg c380005]; rw [if_neg (fun q => q.elim (fun z => z (by have k9 := c380088; simp only [sx380087, ev380080, ev380083] at k9; exact k9)) (by have k9 := c380092; simp only [sx380091, ev380080] at k9; exact k9))]; rw [if_neg (fun q => q.2 (by have k9 := c380244; simp only [sx380239, sx380243] at k9; exact k9))]; rw [hk9, hg9, hfu]; show (match fD _ _ _ with | none => _ | some q => _) = _; rw [hfd]; show (if _ then _ else _) = _; rw [if_neg c380256]); show _ = _; rw [e9]⟩, by rw [ht]; exact hP, va_K.moved hW.alike hK, hD⟩, hS.F ht⟩) hS.2.2 dX7_produce_240
                        | some q380254 =>
                          rw [hfd] at hla
                          have hla : y380250 = nI q380254 := hla
                          have hqb := (fD_lt hfd).2.1
                          have hqz := hMR.eqe (y := y380249) hjn380077 (by omega)
                          have hqy := hMR.leb (y := y380249) hjn380077 (by omega)
                          have hqc := clT y380249
                          have hqi : (nI q380254).toInt = (q380254 : Int) := nI_toInt (by omega)
                          have hqt := congrArg Int32.toInt hla
                          refine lv_iload hx hb dX7_produce_212 (lv_at hl 1 rfl) ?_
                          refine lv_if_ge (tgt := 224) hx hb dX7_produce_214 (by decide) (fun c380312 => ?_) (fun c380312 => ?_)
                          rotate_left
                          · exact absurd (by rw [xk_le, xk_0]; omega) c380312
                          refine lv_iload_n hx hb dX7_produce_224 rfl (lv_at hl 8 rfl) ?_
                          refine lv_aload hx hb dX7_produce_225 (lv_at hl 4 rfl) ?_
                          refine lv_iload hx hb dX7_produce_227 (lv_at hl 1 rfl) ?_
                          refine lv_iconst (v := 4) hx hb dX7_produce_229 (by decide) ?_
                          obtain ⟨j380314, hj380314⟩ := wG_6 (cy := cy) (N := N) (T := T) (I := I) (Q := Q) (J := J) (hM.lg hjn380077).1 (hM.lg hjn380077).2
                          refine vp_callSi (W.runV (As := [.int y380250, .int 4]) (rest := [.int xs]) ⟨hx, hb, hml, hown, hts⟩ (f_X6_get l dC dI cy w L K N T Q I J (5 * xp.toNatClampNeg + n380077) y380250 4 σ hM hjn380077 (by omega) (by omega) (by omega) (by omega) (by unfold vp_in; decide) hMR) (cwV 2 hts gX7_produce_X6_get rfl rfl rfl (by decide +kernel) ⟨Nat.le_of_ble_eq_true rfl, Nat.le_of_ble_eq_true rfl⟩) ⟨mb_blind, va_recv hK hP (ci := 6) (q0 := j380314) rfl hj380314, fun U hU hW => ⟨rfl, mb_pre hP hK hU hW⟩⟩ rfl rfl hl.1 rfl (lv_room (Nat.le_of_ble_eq_true rfl)) dX7_produce_230 ⟨Nat.le_of_ble_eq_true rfl, Nat.le_of_ble_eq_true rfl⟩) (fun r380313 hr380313 => ?_)
                          rw [show (4 : Int32).toNatClampNeg = 4 by decide] at hr380313
                          refine lv_iconst (v := 1) hx hb dX7_produce_233 (by decide) ?_
                          refine lv_iadd hx hb dX7_produce_234 ?_
                          refine lv_topi (fun v380315 ev380315 => ?_)
                          refine lv_icmp_eq (tgt := 241) hx hb dX7_produce_235 (by decide) (fun c380316 => ?_) (fun c380316 => ?_)
                          · have kc380316 : xs.toInt = v380315.toInt := by have h9 := c380316; rw [xk_eq] at h9; exact h9
                            refine lv_aload hx hb dX7_produce_241 (lv_at hl 4 rfl) ?_
                            obtain ⟨j380318, hj380318⟩ := wG_6 (cy := cy) (N := N) (T := T) (I := I) (Q := Q) (J := J) (hM.lg hjn380077).1 (hM.lg hjn380077).2
                            refine vp_callSi (W.runV (As := []) (rest := []) ⟨hx, hb, hml, hown, hts⟩ (c_X6_many l dC dI cy w L K N T Q I J (5 * xp.toNatClampNeg + n380077) hM hjn380077) (cwV 0 hts gX7_produce_X6_many rfl rfl rfl (by decide +kernel) ⟨Nat.le_of_ble_eq_true rfl, Nat.le_of_ble_eq_true rfl⟩) ⟨mb_blind, va_recv hK hP (ci := 6) (q0 := j380318) rfl hj380318, fun U hU hW => ⟨rfl, mb_pre hP hK hU hW⟩⟩ rfl rfl hl.1 rfl (lv_room (Nat.le_of_ble_eq_true rfl)) dX7_produce_243 ⟨Nat.le_of_ble_eq_true rfl, Nat.le_of_ble_eq_true rfl⟩) (fun r380317 hr380317 => ?_)
                            obtain ⟨ha380319, hb380319, hc380319, hd380319, he380319, hf380319⟩ := hML (5 * xp.toNatClampNeg + n380077) hjn380077
                            have tr380317 : r380317.toInt = (I (w (21 + (5 * xp.toNatClampNeg + n380077))) 2).toInt - (I (w (21 + (5 * xp.toNatClampNeg + n380077))) 1).toInt := by rw [hr380317]; exact xsub (by omega) (by omega)
                            have hir380317 : r380317 = σ.2.1 (5 * xp.toNatClampNeg + n380077) 2 - σ.2.1 (5 * xp.toNatClampNeg + n380077) 1 := by rw [hr380317, hMR.g hjn380077 (by decide) (by decide), hMR.g hjn380077 (by decide) (by decide)]
                            refine lv_bipush (v := 60) hx hb dX7_produce_246 (by decide) ?_
                            refine lv_icmp_ne (tgt := 254) hx hb dX7_produce_248 (by decide) (fun c380320 => ?_) (fun c380320 => ?_)
                            · have kc380320 : ¬ (r380317.toInt = 60) := by have h9 := c380320; rw [xk_eq, (show (60 : Int32).toInt = 60 by decide)] at h9; exact h9
                              refine lv_iload hx hb dX7_produce_254 (lv_at hl 3 rfl) ?_
                              refine lv_if_lt (tgt := 274) hx hb dX7_produce_256 (by decide) (fun c380321 => ?_) (fun c380321 => ?_)
                              · exact absurd ((xk_lt _ _).mp c380321) (by rw [xk_0]; have h9 := vp_in_iff.mp hin380081; omega)
                              refine lv_aload_n hx hb dX7_produce_259 rfl (lv_at hl 5 rfl) ?_
                              obtain ⟨j380322, hj380322⟩ := wG_7 (cy := cy) (N := N) (T := T) (I := I) (Q := Q) (J := J) (hM.at 0 (by decide)) (hM.k 0 (by decide) rfl)
                              refine va_get (D := (dC, dI)) (ci := 7) (v := .ref (T (w 0) 8)) (C := RX7) (T := TX7) (N := 18) hx hb hts hi7 hown hK hP j380322 hj380322 rfl 8 (by decide) (hts (.fieldLink RX7 37 "TallyLogsModel" "mode" "[I") (by decide +kernel)) (fun _ h9 => h9) rfl dX7_produce_260 ?_
                              refine W.eq (g2 := F0 m 263 ls [.ref (w 9)]) (by rw [hM.t 8 (by decide)]) ?_
                              refine lv_iload hx hb dX7_produce_263 (lv_at hl 3 rfl) ?_
                              obtain ⟨j380323, hj380323⟩ := wG_20 (cy := cy) (N := N) (T := T) (I := I) (Q := Q) (J := J) (hM.at 9 (by decide)) (hM.k 9 (by decide) rfl)
                              refine va_iald hx hb hK hP j380323 1 hj380323 rfl (hM.inN (n := 6) 9 (by decide) rfl rfl hin380081) dX7_produce_265 ?_
                              refine lv_topi (fun x380324 ex380324 => ?_)
                              have sx380324 : x380324 = σ.1 9 v380080.toNatClampNeg := ex380324.trans (hMR.a (k := 9) (by decide) (by decide) (show _ < 6 from vp_lt (n := 6) hin380081))
                              refine lv_iconst (v := 1) hx hb dX7_produce_266 (by decide) ?_
                              refine lv_icmp_ne (tgt := 274) hx hb dX7_produce_267 (by decide) (fun c380325 => ?_) (fun c380325 => ?_)
                              · have kc380325 : ¬ (x380324.toInt = 1) := by have h9 := c380325; rw [xk_eq, xk_1] at h9; exact h9
                                refine lv_iconst (v := 0) hx hb dX7_produce_274 (by decide) ?_
                                refine lv_istore (lv' := [(10, .int 0), (11, .int y380249), (9, .int v380083), (8, .int v380080), (7, .ref (w (21 + (5 * xp.toNatClampNeg + n380077)))), (0, .ref (w 0)), (1, .int xp), (2, .int xh), (3, .int xs), (4, .int xk), (5, .int xv), (6, .int al)]) hx hb dX7_produce_275 hl (by decide) rfl (fun ls hl => ?_)
                                refine lv_aload hx hb dX7_produce_277 (lv_at hl 4 rfl) ?_
                                refine lv_aload_n hx hb dX7_produce_279 rfl (lv_at hl 5 rfl) ?_
                                obtain ⟨j380326, hj380326⟩ := wG_7 (cy := cy) (N := N) (T := T) (I := I) (Q := Q) (J := J) (hM.at 0 (by decide)) (hM.k 0 (by decide) rfl)
                                refine va_get (D := (dC, dI)) (ci := 7) (v := .ref (T (w 0) 4)) (C := RX7) (T := TX7) (N := 18) hx hb hts hi7 hown hK hP j380326 hj380326 rfl 4 (by decide) (hts (.fieldLink RX7 25 "TallyLogsModel" "epoch" "[I") (by decide +kernel)) (fun _ h9 => h9) rfl dX7_produce_280 ?_
                                refine W.eq (g2 := F0 m 283 ls [.ref (w 5), .ref (w (21 + (5 * xp.toNatClampNeg + n380077)))]) (by rw [hM.t 4 (by decide)]) ?_
                                refine lv_iload_n hx hb dX7_produce_283 rfl (lv_at hl 6 rfl) ?_
                                obtain ⟨j380327, hj380327⟩ := wG_20 (cy := cy) (N := N) (T := T) (I := I) (Q := Q) (J := J) (hM.at 5 (by decide)) (hM.k 5 (by decide) rfl)
                                refine va_iald hx hb hK hP j380327 1 hj380327 rfl (hM.inN (n := 4) 5 (by decide) rfl rfl hth380004.1) dX7_produce_284 ?_
                                refine lv_topi (fun x380328 ex380328 => ?_)
                                have sx380328 : x380328 = σ.1 5 xp.toNatClampNeg := ex380328.trans (hMR.a (k := 5) (by decide) (by decide) (show _ < 4 from vp_lt (n := 4) hth380004.1))
                                refine lv_iconst (v := 0) hx hb dX7_produce_285 (by decide) ?_
                                refine lv_iload hx hb dX7_produce_286 (lv_at hl 3 rfl) ?_
                                refine lv_iload hx hb dX7_produce_288 (lv_at hl 2 rfl) ?_
                                refine lv_iload hx hb dX7_produce_290 (lv_at hl 3 rfl) ?_
                                refine lv_if_ge (tgt := 299) hx hb dX7_produce_292 (by decide) (fun c380329 => ?_) (fun c380329 => ?_)
                                rotate_left
                                · exact absurd ((xk_le _ _).mpr (by rw [xk_0]; have h9 := vp_in_iff.mp hin380081; omega)) c380329
                                refine lv_iload_n hx hb dX7_produce_299 rfl (lv_at hl 8 rfl) ?_
                                refine lv_iload hx hb dX7_produce_300 (lv_at hl 9 rfl) ?_
                                refine lv_iload hx hb dX7_produce_302 (lv_at hl 10 rfl) ?_
                                refine lv_iload hx hb dX7_produce_304 (lv_at hl 0 rfl) ?_
                                refine lv_if_eq (tgt := 313) hx hb dX7_produce_306 (by decide) (fun c380330 => ?_) (fun c380330 => ?_)
                                rotate_left
                                · exact absurd c380330 (by decide)
                                refine lv_iconst (v := 0) hx hb dX7_produce_313 (by decide) ?_
                                obtain ⟨j380331, hj380331⟩ := wG_6 (cy := cy) (N := N) (T := T) (I := I) (Q := Q) (J := J) (hM.lg hjn380077).1 (hM.lg hjn380077).2
                                have hFc := pfree hD hS hA
                                refine va_callv (va_runV (As := [.int x380328, .int 0, .int v380080, .int v380083, .int xs, .int xk, .int xv, .int 0]) (rest := []) ⟨hx, hb, hml, hown, hts⟩ (f_X6_add l dC dI cy w L K N T Q I J s.heap.size (5 * xp.toNatClampNeg + n380077) x380328 0 v380080 v380083 xs xk xv 0 σ hM hjn380077 (by omega) (by omega) (by omega) (by omega) hMR) (cwV 8 hts gX7_produce_X6_add rfl rfl rfl (by decide +kernel) ⟨Nat.le_of_ble_eq_true rfl, Nat.le_of_ble_eq_true rfl⟩) ⟨mw_blind, va_recv hK hP (ci := 6) (q0 := j380331) rfl hj380331, fun U hU hW => ⟨rfl, mw_pre hP hK hD hU hW⟩⟩ rfl rfl hl.1 rfl (lv_room (Nat.le_of_ble_eq_true rfl)) dX7_produce_314 ⟨Nat.le_of_ble_eq_true rfl, Nat.le_of_ble_eq_true rfl⟩) hS (fun q _ h => hFc q h) hFc (fun d9 t H1 locs ht hvm hw hB hz1 hk1 hS => ?_)
                                obtain ⟨I380332, J380332⟩ := d9
                                obtain ⟨hP, hK1, hD1⟩ := hB
                                rw [ht] at hP
                                have hD := hD1.weaken (fun _ _ _ h => hFc _ h)
                                generalize H1 = H at hP hS ⊢
                                have hP : va_P (dC, dI) vwCl (va_pl L (wF cy K N T I380332 Q J380332)) H := hP
                                have hD : va_D A (va_pl L (wF cy K N T I380332 Q J380332)) := hD
                                have hMRn := hw.1
                                have hw := hw.2
                                have hw380334 : LW w I J I380332 J380332 (5 * xp.toNatClampNeg + n380077) _ _ := hw
                                have hR : RM w [] I J I380332 J380332 := hR.lw hM hjn380077 hw380334
                                have hMD : MD w J380332 := hMD.lw hM hjn380077 hw380334
                                have hMU : MU w I380332 := hMU.lw hM hjn380077 hw380334
                                have q1hw380334 : (I380332 (w (21 + (5 * xp.toNatClampNeg + n380077))) 1).toInt = _ := hw380334.2.2.1
                                have q2hw380334 : (I380332 (w (21 + (5 * xp.toNatClampNeg + n380077))) 2).toInt = _ := hw380334.2.2.2
                                have q3hw380334 : (I380332 (w (21 + (5 * xp.toNatClampNeg + n380077))) 3).toInt = _ := congrArg Int32.toInt hw380334.f3
                                have q4hw380334 : (I380332 (w (21 + (5 * xp.toNatClampNeg + n380077))) 4).toInt = _ := congrArg Int32.toInt hw380334.f4
                                have hML : ML w (E + 1) I380332 := hML.lw hM hjn380077 hw380334 (by omega) ⟨by omega, by omega, by omega, by omega, by omega, by omega⟩
                                obtain ⟨sg380335, esg380335⟩ : ∃ z, z = oAd σ (5 * xp.toNatClampNeg + n380077) (r8 x380328 0 v380080 v380083 xs xk xv 0) := ⟨_, rfl⟩
                                have hMR : MR w I380332 J380332 sg380335 := by rw [esg380335]; exact hMRn
                                refine lv_iload hx hb dX7_produce_317 (lv_at hl 0 rfl) ?_
                                refine lv_if_eq (tgt := 335) hx hb dX7_produce_319 (by decide) (fun c380336 => ?_) (fun c380336 => ?_)
                                rotate_left
                                · exact absurd c380336 (by decide)
                                refine lv_aload_n hx hb dX7_produce_335 rfl (lv_at hl 5 rfl) ?_
                                refine lv_iload_n hx hb dX7_produce_336 rfl (lv_at hl 6 rfl) ?_
                                obtain ⟨j380337, hj380337⟩ := wG_7 (cy := cy) (N := N) (T := T) (I := I380332) (Q := Q) (J := J380332) (hM.at 0 (by decide)) (hM.k 0 (by decide) rfl)
                                have hFc := pfree hD hS hA
                                refine va_callv (va_runV (As := [.int xp]) (rest := []) ⟨hx, hb, hml, hown, hts⟩ (f_X7_rise l dC dI cy w L K N T Q I380332 J380332 H.size xp sg380335 hM hth380004.1 (hMD _ (vp_lt (n := 4) hth380004.1)) hMR) (cwV 1 hts gX7_produce_X7_rise rfl rfl rfl (by decide +kernel) ⟨Nat.le_of_ble_eq_true rfl, Nat.le_of_ble_eq_true rfl⟩) ⟨mw_blind, va_recv hK hP (ci := 7) (q0 := j380337) rfl hj380337, fun U hU hW => ⟨rfl, mw_pre hP hK hD hU hW⟩⟩ rfl rfl hl.1 rfl (lv_room (Nat.le_of_ble_eq_true rfl)) dX7_produce_337 ⟨Nat.le_of_ble_eq_true rfl, Nat.le_of_ble_eq_true rfl⟩) hS (fun q _ h => hFc q h) hFc (fun d9 t H1 locs ht hvm hw hB hz1 hk1 hS => ?_)
                                obtain ⟨I380338, J380338⟩ := d9
                                obtain ⟨hP, hK1, hD1⟩ := hB
                                rw [ht] at hP
                                have hD := hD1.weaken (fun _ _ _ h => hFc _ h)
                                generalize H1 = H at hP hS ⊢
                                have hP : va_P (dC, dI) vwCl (va_pl L (wF cy K N T I380338 Q J380338)) H := hP
                                have hD : va_D A (va_pl L (wF cy K N T I380338 Q J380338)) := hD
                                have hMRn := hw.1
                                have hw := hw.2
                                have hw380340 : RZ w I380332 J380332 I380338 J380338 xp.toNatClampNeg := hw
                                have hR : RM w [] I J I380338 J380338 := hR.rz hM (vp_lt (n := 4) hth380004.1) hw380340
                                have hMD : MD w J380338 := hMD.rz hw380340
                                have hMU : MU w I380338 := hMU.rz hM (vp_lt (n := 4) hth380004.1) hw380340
                                have hML : ML w (E + 1) I380338 := hML.rz hM (vp_lt (n := 4) hth380004.1) hw380340
                                obtain ⟨sg380341, esg380341⟩ : ∃ z, z = oRi sg380335 xp.toNatClampNeg := ⟨_, rfl⟩
                                have hMR : MR w I380338 J380338 sg380341 := by rw [esg380341]; exact hMRn
                                refine lv_aload hx hb dX7_produce_340 (lv_at hl 4 rfl) ?_
                                obtain ⟨j380342, hj380342⟩ := wG_6 (cy := cy) (N := N) (T := T) (I := I380338) (Q := Q) (J := J380338) (hM.lg hjn380077).1 (hM.lg hjn380077).2
                                refine va_get (D := (dC, dI)) (ci := 6) (v := .int (I380338 (w (21 + (5 * xp.toNatClampNeg + n380077))) 2)) (C := RX6) (T := TX6) (N := 7) hx hb hts hi6 hown hK hP j380342 hj380342 rfl 2 (by decide) (hts (.fieldLink RX7 89 "TallyLogsModel$Log" "end" "I") (by decide +kernel)) (fun _ h9 => h9) rfl dX7_produce_342 ?_
                                refine lv_topi (fun x380343 ex380343 => ?_)
                                have sx380343 : x380343 = sg380341.2.1 (5 * xp.toNatClampNeg + n380077) 2 := ex380343.trans (hMR.g hjn380077 (by decide) (by decide))
                                have tx380343 : x380343.toInt = (I380338 (w (21 + (5 * xp.toNatClampNeg + n380077))) 2).toInt := congrArg Int32.toInt ex380343
                                refine lv_iconst (v := 1) hx hb dX7_produce_345 (by decide) ?_
                                refine lv_isub hx hb dX7_produce_346 ?_
                                refine lv_topi (fun v380344 ev380344 => ?_)
                                rw [hQz]
                                exact W.iret (v := v380344) hx hb hr (fun t ht hW => ⟨⟨v380344, (I380338, J380338), rfl, ⟨⟨hML.mono (by omega), hMD, hMU⟩, by have e9 : qPr σ xp xh xs xk xv al = (sg380341, v380344) := (by have hk9 : xh - xh / 8 * 8 = v380080 := (by simp only [ev380080]); have hg9 : xh / 8 = v380083 := (by simp only [ev380083]); rw [qPr, if_neg (by have k9 := c380003; simp only [hir380001] at k9; exact k9), if_neg (fun q => c380073 q.2), oqn380077]; show (if _ then _ else _) = _; rw [if_neg c380005]; rw [if_neg (fun q => q.elim (fun z => z (by have k9 := c380088; simp only [sx380087, ev380080, ev380083] at k9; exact k9)) (by have k9 := c380092; simp only [sx380091, ev380080] at k9; exact k9))]; rw [if_neg (fun q => q.2 (by have k9 := c380244; simp only [sx380239, sx380243] at k9; exact k9))]; rw [hk9, hg9, hfu]; show (match fD _ _ _ with | none => _ | some q => _) = _; rw [hfd]; show (if _ then _ else _) = _; rw [if_pos (by have k9 := c380316; rw [ev380315, hr380313, hla, nI_clamp (by omega)] at k9; exact k9)]; rw [if_neg (by have k9 := c380320; simp only [hir380317] at k9; exact k9)]; have ha9 : v380344 = σ.2.1 (5 * xp.toNatClampNeg + n380077) 2 := (by rw [ev380344, sx380343, esg380341, oRi_g (by decide)]; simp only [esg380335, sx380328, ev380080, ev380083]; rw [oAd_e]; exact Int32.add_sub_cancel _ _); rw [ha9]; refine Prod.ext ?_ rfl; show oPr _ _ _ _ _ _ _ _ = _; have hxp9 : nI xp.toNatClampNeg = xp := (xnI hth380004.1 (by decide)).symm; rw [oPr, if_neg (fun q => absurd q.2 (by have k9 := c380325; simp only [sx380324] at k9; exact k9)), if_neg (by have h9 := vp_in_iff.mp hin380081; rw [xk_lt, xk_0]; omega)]; rw [esg380341]; simp only [esg380335, sx380328, ev380080, ev380083, hxp9] <;> rfl); show MR w I380338 J380338 _; rw [e9]; exact hMR, by have e9 : qPr σ xp xh xs xk xv al = (sg380341, v380344) := (by have hk9 : xh - xh / 8 * 8 = v380080 := (by simp only [ev380080]); have hg9 : xh / 8 = v380083 := (by simp only [ev380083]); rw [qPr, if_neg (by have k9 := c380003; simp only [hir380001] at k9; exact k9), if_neg (fun q => c380073 q.2), oqn380077]; show (if _ then _ else _) = _; rw [if_neg c380005]; rw [if_neg (fun q => q.elim (fun z => z (by have k9 := c380088; simp only [sx380087, ev380080, ev380083] at k9; exact k9)) (by have k9 := c380092; simp only [sx380091, ev380080] at k9; exact k9))]; rw [if_neg (fun q => q.2 (by have k9 := c380244; simp only [sx380239, sx380243] at k9; exact k9))]; rw [hk9, hg9, hfu]; show (match fD _ _ _ with | none => _ | some q => _) = _; rw [hfd]; show (if _ then _ else _) = _; rw [if_pos (by have k9 := c380316; rw [ev380315, hr380313, hla, nI_clamp (by omega)] at k9; exact k9)]; rw [if_neg (by have k9 := c380320; simp only [hir380317] at k9; exact k9)]; have ha9 : v380344 = σ.2.1 (5 * xp.toNatClampNeg + n380077) 2 := (by rw [ev380344, sx380343, esg380341, oRi_g (by decide)]; simp only [esg380335, sx380328, ev380080, ev380083]; rw [oAd_e]; exact Int32.add_sub_cancel _ _); rw [ha9]; refine Prod.ext ?_ rfl; show oPr _ _ _ _ _ _ _ _ = _; have hxp9 : nI xp.toNatClampNeg = xp := (xnI hth380004.1 (by decide)).symm; rw [oPr, if_neg (fun q => absurd q.2 (by have k9 := c380325; simp only [sx380324] at k9; exact k9)), if_neg (by have h9 := vp_in_iff.mp hin380081; rw [xk_lt, xk_0]; omega)]; rw [esg380341]; simp only [esg380335, sx380328, ev380080, ev380083, hxp9] <;> rfl); show _ = _; rw [e9]⟩, by rw [ht]; exact hP, va_K.moved hW.alike hK, hD⟩, hS.F ht⟩) hS.2.2 dX7_produce_347
                              · have kc380325 : x380324.toInt = 1 := by have h9 := c380325; rw [xk_eq, xk_1] at h9; exact h9
                                refine lv_iconst (v := 1) hx hb dX7_produce_270 (by decide) ?_
                                refine lv_goto (tgt := 275) hx hb dX7_produce_271 (by decide) ?_
                                refine lv_istore (lv' := [(10, .int 1), (11, .int y380249), (9, .int v380083), (8, .int v380080), (7, .ref (w (21 + (5 * xp.toNatClampNeg + n380077)))), (0, .ref (w 0)), (1, .int xp), (2, .int xh), (3, .int xs), (4, .int xk), (5, .int xv), (6, .int al)]) hx hb dX7_produce_275 hl (by decide) rfl (fun ls hl => ?_)
                                refine lv_aload hx hb dX7_produce_277 (lv_at hl 4 rfl) ?_
                                refine lv_aload_n hx hb dX7_produce_279 rfl (lv_at hl 5 rfl) ?_
                                obtain ⟨j380345, hj380345⟩ := wG_7 (cy := cy) (N := N) (T := T) (I := I) (Q := Q) (J := J) (hM.at 0 (by decide)) (hM.k 0 (by decide) rfl)
                                refine va_get (D := (dC, dI)) (ci := 7) (v := .ref (T (w 0) 4)) (C := RX7) (T := TX7) (N := 18) hx hb hts hi7 hown hK hP j380345 hj380345 rfl 4 (by decide) (hts (.fieldLink RX7 25 "TallyLogsModel" "epoch" "[I") (by decide +kernel)) (fun _ h9 => h9) rfl dX7_produce_280 ?_
                                refine W.eq (g2 := F0 m 283 ls [.ref (w 5), .ref (w (21 + (5 * xp.toNatClampNeg + n380077)))]) (by rw [hM.t 4 (by decide)]) ?_
                                refine lv_iload_n hx hb dX7_produce_283 rfl (lv_at hl 6 rfl) ?_
                                obtain ⟨j380346, hj380346⟩ := wG_20 (cy := cy) (N := N) (T := T) (I := I) (Q := Q) (J := J) (hM.at 5 (by decide)) (hM.k 5 (by decide) rfl)
                                refine va_iald hx hb hK hP j380346 1 hj380346 rfl (hM.inN (n := 4) 5 (by decide) rfl rfl hth380004.1) dX7_produce_284 ?_
                                refine lv_topi (fun x380347 ex380347 => ?_)
                                have sx380347 : x380347 = σ.1 5 xp.toNatClampNeg := ex380347.trans (hMR.a (k := 5) (by decide) (by decide) (show _ < 4 from vp_lt (n := 4) hth380004.1))
                                refine lv_iconst (v := 0) hx hb dX7_produce_285 (by decide) ?_
                                refine lv_iload hx hb dX7_produce_286 (lv_at hl 3 rfl) ?_
                                refine lv_iload hx hb dX7_produce_288 (lv_at hl 2 rfl) ?_
                                refine lv_iload hx hb dX7_produce_290 (lv_at hl 3 rfl) ?_
                                refine lv_if_ge (tgt := 299) hx hb dX7_produce_292 (by decide) (fun c380348 => ?_) (fun c380348 => ?_)
                                rotate_left
                                · exact absurd ((xk_le _ _).mpr (by rw [xk_0]; have h9 := vp_in_iff.mp hin380081; omega)) c380348
                                refine lv_iload_n hx hb dX7_produce_299 rfl (lv_at hl 8 rfl) ?_
                                refine lv_iload hx hb dX7_produce_300 (lv_at hl 9 rfl) ?_
                                refine lv_iload hx hb dX7_produce_302 (lv_at hl 10 rfl) ?_
                                refine lv_iload hx hb dX7_produce_304 (lv_at hl 0 rfl) ?_
                                refine lv_if_eq (tgt := 313) hx hb dX7_produce_306 (by decide) (fun c380349 => ?_) (fun c380349 => ?_)
                                · exact absurd c380349 (by decide)
                                refine lv_iconst (v := 1) hx hb dX7_produce_309 (by decide) ?_
                                refine lv_goto (tgt := 314) hx hb dX7_produce_310 (by decide) ?_
                                obtain ⟨j380350, hj380350⟩ := wG_6 (cy := cy) (N := N) (T := T) (I := I) (Q := Q) (J := J) (hM.lg hjn380077).1 (hM.lg hjn380077).2
                                have hFc := pfree hD hS hA
                                refine va_callv (va_runV (As := [.int x380347, .int 0, .int v380080, .int v380083, .int xs, .int xk, .int xv, .int 1]) (rest := []) ⟨hx, hb, hml, hown, hts⟩ (f_X6_add l dC dI cy w L K N T Q I J s.heap.size (5 * xp.toNatClampNeg + n380077) x380347 0 v380080 v380083 xs xk xv 1 σ hM hjn380077 (by omega) (by omega) (by omega) (by omega) hMR) (cwV 8 hts gX7_produce_X6_add rfl rfl rfl (by decide +kernel) ⟨Nat.le_of_ble_eq_true rfl, Nat.le_of_ble_eq_true rfl⟩) ⟨mw_blind, va_recv hK hP (ci := 6) (q0 := j380350) rfl hj380350, fun U hU hW => ⟨rfl, mw_pre hP hK hD hU hW⟩⟩ rfl rfl hl.1 rfl (lv_room (Nat.le_of_ble_eq_true rfl)) dX7_produce_314 ⟨Nat.le_of_ble_eq_true rfl, Nat.le_of_ble_eq_true rfl⟩) hS (fun q _ h => hFc q h) hFc (fun d9 t H1 locs ht hvm hw hB hz1 hk1 hS => ?_)
                                obtain ⟨I380351, J380351⟩ := d9
                                obtain ⟨hP, hK1, hD1⟩ := hB
                                rw [ht] at hP
                                have hD := hD1.weaken (fun _ _ _ h => hFc _ h)
                                generalize H1 = H at hP hS ⊢
                                have hP : va_P (dC, dI) vwCl (va_pl L (wF cy K N T I380351 Q J380351)) H := hP
                                have hD : va_D A (va_pl L (wF cy K N T I380351 Q J380351)) := hD
                                have hMRn := hw.1
                                have hw := hw.2
                                have hw380353 : LW w I J I380351 J380351 (5 * xp.toNatClampNeg + n380077) _ _ := hw
                                have hR : RM w [] I J I380351 J380351 := hR.lw hM hjn380077 hw380353
                                have hMD : MD w J380351 := hMD.lw hM hjn380077 hw380353
                                have hMU : MU w I380351 := hMU.lw hM hjn380077 hw380353
                                have q1hw380353 : (I380351 (w (21 + (5 * xp.toNatClampNeg + n380077))) 1).toInt = _ := hw380353.2.2.1
                                have q2hw380353 : (I380351 (w (21 + (5 * xp.toNatClampNeg + n380077))) 2).toInt = _ := hw380353.2.2.2
                                have q3hw380353 : (I380351 (w (21 + (5 * xp.toNatClampNeg + n380077))) 3).toInt = _ := congrArg Int32.toInt hw380353.f3
                                have q4hw380353 : (I380351 (w (21 + (5 * xp.toNatClampNeg + n380077))) 4).toInt = _ := congrArg Int32.toInt hw380353.f4
                                have hML : ML w (E + 1) I380351 := hML.lw hM hjn380077 hw380353 (by omega) ⟨by omega, by omega, by omega, by omega, by omega, by omega⟩
                                obtain ⟨sg380354, esg380354⟩ : ∃ z, z = oAd σ (5 * xp.toNatClampNeg + n380077) (r8 x380347 0 v380080 v380083 xs xk xv 1) := ⟨_, rfl⟩
                                have hMR : MR w I380351 J380351 sg380354 := by rw [esg380354]; exact hMRn
                                refine lv_iload hx hb dX7_produce_317 (lv_at hl 0 rfl) ?_
                                refine lv_if_eq (tgt := 335) hx hb dX7_produce_319 (by decide) (fun c380355 => ?_) (fun c380355 => ?_)
                                · exact absurd c380355 (by decide)
                                refine lv_aload_n hx hb dX7_produce_322 rfl (lv_at hl 5 rfl) ?_
                                obtain ⟨j380356, hj380356⟩ := wG_7 (cy := cy) (N := N) (T := T) (I := I380351) (Q := Q) (J := J380351) (hM.at 0 (by decide)) (hM.k 0 (by decide) rfl)
                                refine va_get (D := (dC, dI)) (ci := 7) (v := .ref (T (w 0) 9)) (C := RX7) (T := TX7) (N := 18) hx hb hts hi7 hown hK hP j380356 hj380356 rfl 9 (by decide) (hts (.fieldLink RX7 40 "TallyLogsModel" "bound" "[I") (by decide +kernel)) (fun _ h9 => h9) rfl dX7_produce_323 ?_
                                refine W.eq (g2 := F0 m 326 ls [.ref (w 10)]) (by rw [hM.t 9 (by decide)]) ?_
                                refine lv_iload hx hb dX7_produce_326 (lv_at hl 3 rfl) ?_
                                refine lv_dup2_11 hx hb dX7_produce_328 rfl rfl ?_
                                obtain ⟨j380357, hj380357⟩ := wG_20 (cy := cy) (N := N) (T := T) (I := I380351) (Q := Q) (J := J380351) (hM.at 10 (by decide)) (hM.k 10 (by decide) rfl)
                                refine va_iald hx hb hK hP j380357 1 hj380357 rfl (hM.inN (n := 6) 10 (by decide) rfl rfl hin380081) dX7_produce_329 ?_
                                refine lv_topi (fun x380358 ex380358 => ?_)
                                have sx380358 : x380358 = sg380354.1 10 v380080.toNatClampNeg := ex380358.trans (hMR.a (k := 10) (by decide) (by decide) (show _ < 6 from vp_lt (n := 6) hin380081))
                                refine lv_iconst (v := 1) hx hb dX7_produce_330 (by decide) ?_
                                refine lv_iload_n hx hb dX7_produce_331 rfl (lv_at hl 6 rfl) ?_
                                refine lv_ishl hx hb dX7_produce_332 ?_
                                refine lv_topi (fun v380359 ev380359 => ?_)
                                refine lv_ior hx hb dX7_produce_333 ?_
                                refine lv_topi (fun v380360 ev380360 => ?_)
                                obtain ⟨j380361, hj380361⟩ := wG_20 (cy := cy) (N := N) (T := T) (I := I380351) (Q := Q) (J := J380351) (hM.at 10 (by decide)) (hM.k 10 (by decide) rfl)
                                have hDo := hD
                                refine va_iast (x := v380360) hx hb hK hP hD hS j380361 1 hj380361 rfl (hM.inN (n := 6) 10 (by decide) rfl rfl hin380081) dX7_produce_334 (fun H locs hP hD hS => ?_)
                                have hP := Eq.mp (congrArg (fun w => va_P (dC, dI) vwCl w H) (wS_20 hDo (hM.at 10 (by decide)) (hM.k 10 (by decide) rfl) hj380361)) hP
                                obtain ⟨J380362, eJ380362⟩ : ∃ z, z = va_up J380351 (w 10) (upd (J380351 (w 10)) v380080.toNatClampNeg v380360) := ⟨_, rfl⟩
                                rw [← eJ380362] at hP
                                have hR : RM w [] I J I380351 J380362 := by rw [eJ380362]; exact hR.pj hM (by decide) (by decide)
                                have hMD : MD w J380362 := by rw [eJ380362]; exact hMD.pj hM (by decide) (by decide)
                                have hD : va_D A (va_pl L (wF cy K N T I380351 Q J380362)) := pD hDo
                                obtain ⟨sg380363, esg380363⟩ : ∃ z, z = sA sg380354 10 v380080.toNatClampNeg v380360 := ⟨_, rfl⟩
                                have hMR : MR w I380351 J380362 sg380363 := by rw [eJ380362, esg380363]; exact hMR.wa hM (by decide) (by decide)
                                refine lv_aload_n hx hb dX7_produce_335 rfl (lv_at hl 5 rfl) ?_
                                refine lv_iload_n hx hb dX7_produce_336 rfl (lv_at hl 6 rfl) ?_
                                obtain ⟨j380364, hj380364⟩ := wG_7 (cy := cy) (N := N) (T := T) (I := I380351) (Q := Q) (J := J380362) (hM.at 0 (by decide)) (hM.k 0 (by decide) rfl)
                                have hFc := pfree hD hS hA
                                refine va_callv (va_runV (As := [.int xp]) (rest := []) ⟨hx, hb, hml, hown, hts⟩ (f_X7_rise l dC dI cy w L K N T Q I380351 J380362 H.size xp sg380363 hM hth380004.1 (hMD _ (vp_lt (n := 4) hth380004.1)) hMR) (cwV 1 hts gX7_produce_X7_rise rfl rfl rfl (by decide +kernel) ⟨Nat.le_of_ble_eq_true rfl, Nat.le_of_ble_eq_true rfl⟩) ⟨mw_blind, va_recv hK hP (ci := 7) (q0 := j380364) rfl hj380364, fun U hU hW => ⟨rfl, mw_pre hP hK hD hU hW⟩⟩ rfl rfl hl.1 rfl (lv_room (Nat.le_of_ble_eq_true rfl)) dX7_produce_337 ⟨Nat.le_of_ble_eq_true rfl, Nat.le_of_ble_eq_true rfl⟩) hS (fun q _ h => hFc q h) hFc (fun d9 t H1 locs ht hvm hw hB hz1 hk1 hS => ?_)
                                obtain ⟨I380365, J380365⟩ := d9
                                obtain ⟨hP, hK1, hD1⟩ := hB
                                rw [ht] at hP
                                have hD := hD1.weaken (fun _ _ _ h => hFc _ h)
                                generalize H1 = H at hP hS ⊢
                                have hP : va_P (dC, dI) vwCl (va_pl L (wF cy K N T I380365 Q J380365)) H := hP
                                have hD : va_D A (va_pl L (wF cy K N T I380365 Q J380365)) := hD
                                have hMRn := hw.1
                                have hw := hw.2
                                have hw380367 : RZ w I380351 J380362 I380365 J380365 xp.toNatClampNeg := hw
                                have hR : RM w [] I J I380365 J380365 := hR.rz hM (vp_lt (n := 4) hth380004.1) hw380367
                                have hMD : MD w J380365 := hMD.rz hw380367
                                have hMU : MU w I380365 := hMU.rz hM (vp_lt (n := 4) hth380004.1) hw380367
                                have hML : ML w (E + 1) I380365 := hML.rz hM (vp_lt (n := 4) hth380004.1) hw380367
                                obtain ⟨sg380368, esg380368⟩ : ∃ z, z = oRi sg380363 xp.toNatClampNeg := ⟨_, rfl⟩
                                have hMR : MR w I380365 J380365 sg380368 := by rw [esg380368]; exact hMRn
                                refine lv_aload hx hb dX7_produce_340 (lv_at hl 4 rfl) ?_
                                obtain ⟨j380369, hj380369⟩ := wG_6 (cy := cy) (N := N) (T := T) (I := I380365) (Q := Q) (J := J380365) (hM.lg hjn380077).1 (hM.lg hjn380077).2
                                refine va_get (D := (dC, dI)) (ci := 6) (v := .int (I380365 (w (21 + (5 * xp.toNatClampNeg + n380077))) 2)) (C := RX6) (T := TX6) (N := 7) hx hb hts hi6 hown hK hP j380369 hj380369 rfl 2 (by decide) (hts (.fieldLink RX7 89 "TallyLogsModel$Log" "end" "I") (by decide +kernel)) (fun _ h9 => h9) rfl dX7_produce_342 ?_
                                refine lv_topi (fun x380370 ex380370 => ?_)
                                have sx380370 : x380370 = sg380368.2.1 (5 * xp.toNatClampNeg + n380077) 2 := ex380370.trans (hMR.g hjn380077 (by decide) (by decide))
                                have tx380370 : x380370.toInt = (I380365 (w (21 + (5 * xp.toNatClampNeg + n380077))) 2).toInt := congrArg Int32.toInt ex380370
                                refine lv_iconst (v := 1) hx hb dX7_produce_345 (by decide) ?_
                                refine lv_isub hx hb dX7_produce_346 ?_
                                refine lv_topi (fun v380371 ev380371 => ?_)
                                rw [hQz]
                                exact W.iret (v := v380371) hx hb hr (fun t ht hW => ⟨⟨v380371, (I380365, J380365), rfl, ⟨⟨hML.mono (by omega), hMD, hMU⟩, by have e9 : qPr σ xp xh xs xk xv al = (sg380368, v380371) := (by have hk9 : xh - xh / 8 * 8 = v380080 := (by simp only [ev380080]); have hg9 : xh / 8 = v380083 := (by simp only [ev380083]); rw [qPr, if_neg (by have k9 := c380003; simp only [hir380001] at k9; exact k9), if_neg (fun q => c380073 q.2), oqn380077]; show (if _ then _ else _) = _; rw [if_neg c380005]; rw [if_neg (fun q => q.elim (fun z => z (by have k9 := c380088; simp only [sx380087, ev380080, ev380083] at k9; exact k9)) (by have k9 := c380092; simp only [sx380091, ev380080] at k9; exact k9))]; rw [if_neg (fun q => q.2 (by have k9 := c380244; simp only [sx380239, sx380243] at k9; exact k9))]; rw [hk9, hg9, hfu]; show (match fD _ _ _ with | none => _ | some q => _) = _; rw [hfd]; show (if _ then _ else _) = _; rw [if_pos (by have k9 := c380316; rw [ev380315, hr380313, hla, nI_clamp (by omega)] at k9; exact k9)]; rw [if_neg (by have k9 := c380320; simp only [hir380317] at k9; exact k9)]; have ha9 : v380371 = σ.2.1 (5 * xp.toNatClampNeg + n380077) 2 := (by rw [ev380371, sx380370, esg380368, oRi_g (by decide)]; simp only [esg380363, ev380080, ev380360, sx380358, ev380359, esg380354, sx380347, ev380083]; rw [sA_2, oAd_e]; exact Int32.add_sub_cancel _ _); rw [ha9]; refine Prod.ext ?_ rfl; show oPr _ _ _ _ _ _ _ _ = _; have hxp9 : nI xp.toNatClampNeg = xp := (xnI hth380004.1 (by decide)).symm; rw [oPr, if_pos ⟨(by have h9 := vp_in_iff.mp hin380081; rw [xk_lt, xk_0]; omega), (by have k9 := c380325; simp only [sx380324] at k9; exact k9)⟩]; rw [esg380368]; simp only [esg380363, ev380080, ev380360, sx380358, ev380359, esg380354, sx380347, ev380083, hxp9] <;> rfl); show MR w I380365 J380365 _; rw [e9]; exact hMR, by have e9 : qPr σ xp xh xs xk xv al = (sg380368, v380371) := (by have hk9 : xh - xh / 8 * 8 = v380080 := (by simp only [ev380080]); have hg9 : xh / 8 = v380083 := (by simp only [ev380083]); rw [qPr, if_neg (by have k9 := c380003; simp only [hir380001] at k9; exact k9), if_neg (fun q => c380073 q.2), oqn380077]; show (if _ then _ else _) = _; rw [if_neg c380005]; rw [if_neg (fun q => q.elim (fun z => z (by have k9 := c380088; simp only [sx380087, ev380080, ev380083] at k9; exact k9)) (by have k9 := c380092; simp only [sx380091, ev380080] at k9; exact k9))]; rw [if_neg (fun q => q.2 (by have k9 := c380244; simp only [sx380239, sx380243] at k9; exact k9))]; rw [hk9, hg9, hfu]; show (match fD _ _ _ with | none => _ | some q => _) = _; rw [hfd]; show (if _ then _ else _) = _; rw [if_pos (by have k9 := c380316; rw [ev380315, hr380313, hla, nI_clamp (by omega)] at k9; exact k9)]; rw [if_neg (by have k9 := c380320; simp only [hir380317] at k9; exact k9)]; have ha9 : v380371 = σ.2.1 (5 * xp.toNatClampNeg + n380077) 2 := (by rw [ev380371, sx380370, esg380368, oRi_g (by decide)]; simp only [esg380363, ev380080, ev380360, sx380358, ev380359, esg380354, sx380347, ev380083]; rw [sA_2, oAd_e]; exact Int32.add_sub_cancel _ _); rw [ha9]; refine Prod.ext ?_ rfl; show oPr _ _ _ _ _ _ _ _ = _; have hxp9 : nI xp.toNatClampNeg = xp := (xnI hth380004.1 (by decide)).symm; rw [oPr, if_pos ⟨(by have h9 := vp_in_iff.mp hin380081; rw [xk_lt, xk_0]; omega), (by have k9 := c380325; simp only [sx380324] at k9; exact k9)⟩]; rw [esg380368]; simp only [esg380363, ev380080, ev380360, sx380358, ev380359, esg380354, sx380347, ev380083, hxp9] <;> rfl); show _ = _; rw [e9]⟩, by rw [ht]; exact hP, va_K.moved hW.alike hK, hD⟩, hS.F ht⟩) hS.2.2 dX7_produce_347
                            · have kc380320 : r380317.toInt = 60 := by have h9 := c380320; rw [xk_eq, (show (60 : Int32).toInt = 60 by decide)] at h9; exact h9
                              refine lv_bipush (v := (-3)) hx hb dX7_produce_251 (by decide) ?_
                              rw [hQz]
                              exact W.iret (v := (-3)) hx hb hr (fun t ht hW => ⟨⟨(-3), (I, J), rfl, ⟨⟨hML.mono (by omega), hMD, hMU⟩, by have e9 : qPr σ xp xh xs xk xv al = (σ, (-3)) := (by have hk9 : xh - xh / 8 * 8 = v380080 := (by simp only [ev380080]); have hg9 : xh / 8 = v380083 := (by simp only [ev380083]); rw [qPr, if_neg (by have k9 := c380003; simp only [hir380001] at k9; exact k9), if_neg (fun q => c380073 q.2), oqn380077]; show (if _ then _ else _) = _; rw [if_neg c380005]; rw [if_neg (fun q => q.elim (fun z => z (by have k9 := c380088; simp only [sx380087, ev380080, ev380083] at k9; exact k9)) (by have k9 := c380092; simp only [sx380091, ev380080] at k9; exact k9))]; rw [if_neg (fun q => q.2 (by have k9 := c380244; simp only [sx380239, sx380243] at k9; exact k9))]; rw [hk9, hg9, hfu]; show (match fD _ _ _ with | none => _ | some q => _) = _; rw [hfd]; show (if _ then _ else _) = _; rw [if_pos (by have k9 := c380316; rw [ev380315, hr380313, hla, nI_clamp (by omega)] at k9; exact k9)]; rw [if_pos (by have k9 := c380320; simp only [hir380317] at k9; exact k9)]); show MR w I J _; rw [e9]; exact hMR, by have e9 : qPr σ xp xh xs xk xv al = (σ, (-3)) := (by have hk9 : xh - xh / 8 * 8 = v380080 := (by simp only [ev380080]); have hg9 : xh / 8 = v380083 := (by simp only [ev380083]); rw [qPr, if_neg (by have k9 := c380003; simp only [hir380001] at k9; exact k9), if_neg (fun q => c380073 q.2), oqn380077]; show (if _ then _ else _) = _; rw [if_neg c380005]; rw [if_neg (fun q => q.elim (fun z => z (by have k9 := c380088; simp only [sx380087, ev380080, ev380083] at k9; exact k9)) (by have k9 := c380092; simp only [sx380091, ev380080] at k9; exact k9))]; rw [if_neg (fun q => q.2 (by have k9 := c380244; simp only [sx380239, sx380243] at k9; exact k9))]; rw [hk9, hg9, hfu]; show (match fD _ _ _ with | none => _ | some q => _) = _; rw [hfd]; show (if _ then _ else _) = _; rw [if_pos (by have k9 := c380316; rw [ev380315, hr380313, hla, nI_clamp (by omega)] at k9; exact k9)]; rw [if_pos (by have k9 := c380320; simp only [hir380317] at k9; exact k9)]); show _ = _; rw [e9]⟩, by rw [ht]; exact hP, va_K.moved hW.alike hK, hD⟩, hS.F ht⟩) hS.2.2 dX7_produce_253
                          · have kc380316 : ¬ (xs.toInt = v380315.toInt) := by have h9 := c380316; rw [xk_eq] at h9; exact h9
                            refine lv_bipush (v := (-6)) hx hb dX7_produce_238 (by decide) ?_
                            rw [hQz]
                            exact W.iret (v := (-6)) hx hb hr (fun t ht hW => ⟨⟨(-6), (I, J), rfl, ⟨⟨hML.mono (by omega), hMD, hMU⟩, by have e9 : qPr σ xp xh xs xk xv al = (σ, (-6)) := (by have hk9 : xh - xh / 8 * 8 = v380080 := (by simp only [ev380080]); have hg9 : xh / 8 = v380083 := (by simp only [ev380083]); rw [qPr, if_neg (by have k9 := c380003; simp only [hir380001] at k9; exact k9), if_neg (fun q => c380073 q.2), oqn380077]; show (if _ then _ else _) = _; rw [if_neg c380005]; rw [if_neg (fun q => q.elim (fun z => z (by have k9 := c380088; simp only [sx380087, ev380080, ev380083] at k9; exact k9)) (by have k9 := c380092; simp only [sx380091, ev380080] at k9; exact k9))]; rw [if_neg (fun q => q.2 (by have k9 := c380244; simp only [sx380239, sx380243] at k9; exact k9))]; rw [hk9, hg9, hfu]; show (match fD _ _ _ with | none => _ | some q => _) = _; rw [hfd]; show (if _ then _ else _) = _; rw [if_neg (by have k9 := c380316; rw [ev380315, hr380313, hla, nI_clamp (by omega)] at k9; exact k9)]); show MR w I J _; rw [e9]; exact hMR, by have e9 : qPr σ xp xh xs xk xv al = (σ, (-6)) := (by have hk9 : xh - xh / 8 * 8 = v380080 := (by simp only [ev380080]); have hg9 : xh / 8 = v380083 := (by simp only [ev380083]); rw [qPr, if_neg (by have k9 := c380003; simp only [hir380001] at k9; exact k9), if_neg (fun q => c380073 q.2), oqn380077]; show (if _ then _ else _) = _; rw [if_neg c380005]; rw [if_neg (fun q => q.elim (fun z => z (by have k9 := c380088; simp only [sx380087, ev380080, ev380083] at k9; exact k9)) (by have k9 := c380092; simp only [sx380091, ev380080] at k9; exact k9))]; rw [if_neg (fun q => q.2 (by have k9 := c380244; simp only [sx380239, sx380243] at k9; exact k9))]; rw [hk9, hg9, hfu]; show (match fD _ _ _ with | none => _ | some q => _) = _; rw [hfd]; show (if _ then _ else _) = _; rw [if_neg (by have k9 := c380316; rw [ev380315, hr380313, hla, nI_clamp (by omega)] at k9; exact k9)]); show _ = _; rw [e9]⟩, by rw [ht]; exact hP, va_K.moved hW.alike hK, hD⟩, hS.F ht⟩) hS.2.2 dX7_produce_240
                      · have kc380253 : ¬ (x380252.toInt ≤ y380249.toInt) := by have h9 := c380253; rw [xk_le] at h9; exact h9
                        refine lv_aload hx hb dX7_produce_147 (lv_at hl 4 rfl) ?_
                        refine lv_iload hx hb dX7_produce_149 (lv_at hl 0 rfl) ?_
                        refine lv_iconst (v := 1) hx hb dX7_produce_151 (by decide) ?_
                        obtain ⟨j380373, hj380373⟩ := wG_6 (cy := cy) (N := N) (T := T) (I := I) (Q := Q) (J := J) (hM.lg hjn380077).1 (hM.lg hjn380077).2
                        refine vp_callSi (W.runV (As := [.int y380249, .int 1]) (rest := []) ⟨hx, hb, hml, hown, hts⟩ (f_X6_get l dC dI cy w L K N T Q I J (5 * xp.toNatClampNeg + n380077) y380249 1 σ hM hjn380077 (by omega) (by omega) (by omega) (by omega) (by unfold vp_in; decide) hMR) (cwV 2 hts gX7_produce_X6_get rfl rfl rfl (by decide +kernel) ⟨Nat.le_of_ble_eq_true rfl, Nat.le_of_ble_eq_true rfl⟩) ⟨mb_blind, va_recv hK hP (ci := 6) (q0 := j380373) rfl hj380373, fun U hU hW => ⟨rfl, mb_pre hP hK hU hW⟩⟩ rfl rfl hl.1 rfl (lv_room (Nat.le_of_ble_eq_true rfl)) dX7_produce_152 ⟨Nat.le_of_ble_eq_true rfl, Nat.le_of_ble_eq_true rfl⟩) (fun r380372 hr380372 => ?_)
                        rw [show (1 : Int32).toNatClampNeg = 1 by decide] at hr380372
                        refine lv_if_ne (tgt := 206) hx hb dX7_produce_155 (by decide) (fun c380374 => ?_) (fun c380374 => ?_)
                        · have kc380374 : ¬ (r380372.toInt = 0) := by have h9 := c380374; rw [xk_eq, xk_0] at h9; exact h9
                          obtain ⟨v380375, ev380375⟩ : ∃ y : Int32, y = y380249 + Int32.ofInt 1 := ⟨_, rfl⟩
                          refine lv_iinc (v := v380375) (lv' := [(11, .int v380375), (10, .int y380250), (9, .int v380083), (8, .int v380080), (7, .ref (w (21 + (5 * xp.toNatClampNeg + n380077)))), (0, .ref (w 0)), (1, .int xp), (2, .int xh), (3, .int xs), (4, .int xk), (5, .int xv), (6, .int al)]) hx hb dX7_produce_206 hl (k := 0) rfl ev380375.symm (by decide) rfl (fun ls hl => ?_)
                          refine lv_goto (tgt := 137) hx hb dX7_produce_209 (by decide) ?_
                          have tv380375 : v380375.toInt = y380249.toInt + 1 := by rw [ev380375, show y380249 + Int32.ofInt 1 = y380249 + 1 from rfl]; exact xinc (y := I (w (21 + (5 * xp.toNatClampNeg + n380077))) 2) (by rw [xk_lt]; omega)
                          exact ih380248 _ _ _ (by omega) (by omega) (⟨by omega, hiv380248.2.1, by omega, by rw [clsucc (y := y380249) (by omega) tv380375, ← fU_step (hMR.lte hjn380077 (by omega) (by omega)) (fun q => c380374 (by rw [hr380372]; exact (of_decide_eq_true q).1))]; exact hiv380248.2.2.2.1, by rw [clsucc (y := y380249) (by omega) tv380375, fD_no (hMR.leb hjn380077 (by omega)) (fun q => c380374 (by rw [hr380372]; exact (of_decide_eq_true q).1))]; exact hiv380248.2.2.2.2⟩)  (lv_sub hl [0, 1, 2, 3, 4, 5, 6, 7, 8, 9, 10, 11] rfl)
                        · have kc380374 : r380372.toInt = 0 := by have h9 := c380374; rw [xk_eq, xk_0] at h9; exact h9
                          refine lv_aload hx hb dX7_produce_158 (lv_at hl 4 rfl) ?_
                          refine lv_iload hx hb dX7_produce_160 (lv_at hl 0 rfl) ?_
                          refine lv_iconst (v := 2) hx hb dX7_produce_162 (by decide) ?_
                          obtain ⟨j380377, hj380377⟩ := wG_6 (cy := cy) (N := N) (T := T) (I := I) (Q := Q) (J := J) (hM.lg hjn380077).1 (hM.lg hjn380077).2
                          refine vp_callSi (W.runV (As := [.int y380249, .int 2]) (rest := []) ⟨hx, hb, hml, hown, hts⟩ (f_X6_get l dC dI cy w L K N T Q I J (5 * xp.toNatClampNeg + n380077) y380249 2 σ hM hjn380077 (by omega) (by omega) (by omega) (by omega) (by unfold vp_in; decide) hMR) (cwV 2 hts gX7_produce_X6_get rfl rfl rfl (by decide +kernel) ⟨Nat.le_of_ble_eq_true rfl, Nat.le_of_ble_eq_true rfl⟩) ⟨mb_blind, va_recv hK hP (ci := 6) (q0 := j380377) rfl hj380377, fun U hU hW => ⟨rfl, mb_pre hP hK hU hW⟩⟩ rfl rfl hl.1 rfl (lv_room (Nat.le_of_ble_eq_true rfl)) dX7_produce_163 ⟨Nat.le_of_ble_eq_true rfl, Nat.le_of_ble_eq_true rfl⟩) (fun r380376 hr380376 => ?_)
                          rw [show (2 : Int32).toNatClampNeg = 2 by decide] at hr380376
                          refine lv_iload hx hb dX7_produce_166 (lv_at hl 3 rfl) ?_
                          refine lv_icmp_ne (tgt := 206) hx hb dX7_produce_168 (by decide) (fun c380378 => ?_) (fun c380378 => ?_)
                          · have kc380378 : ¬ (r380376.toInt = v380080.toInt) := by have h9 := c380378; rw [xk_eq] at h9; exact h9
                            obtain ⟨v380379, ev380379⟩ : ∃ y : Int32, y = y380249 + Int32.ofInt 1 := ⟨_, rfl⟩
                            refine lv_iinc (v := v380379) (lv' := [(11, .int v380379), (10, .int y380250), (9, .int v380083), (8, .int v380080), (7, .ref (w (21 + (5 * xp.toNatClampNeg + n380077)))), (0, .ref (w 0)), (1, .int xp), (2, .int xh), (3, .int xs), (4, .int xk), (5, .int xv), (6, .int al)]) hx hb dX7_produce_206 hl (k := 0) rfl ev380379.symm (by decide) rfl (fun ls hl => ?_)
                            refine lv_goto (tgt := 137) hx hb dX7_produce_209 (by decide) ?_
                            have tv380379 : v380379.toInt = y380249.toInt + 1 := by rw [ev380379, show y380249 + Int32.ofInt 1 = y380249 + 1 from rfl]; exact xinc (y := I (w (21 + (5 * xp.toNatClampNeg + n380077))) 2) (by rw [xk_lt]; omega)
                            exact ih380248 _ _ _ (by omega) (by omega) (⟨by omega, hiv380248.2.1, by omega, by rw [clsucc (y := y380249) (by omega) tv380379, ← fU_step (hMR.lte hjn380077 (by omega) (by omega)) (fun q => c380378 (by rw [hr380376]; exact (of_decide_eq_true q).2.1))]; exact hiv380248.2.2.2.1, by rw [clsucc (y := y380249) (by omega) tv380379, fD_no (hMR.leb hjn380077 (by omega)) (fun q => c380378 (by rw [hr380376]; exact (of_decide_eq_true q).2.1))]; exact hiv380248.2.2.2.2⟩)  (lv_sub hl [0, 1, 2, 3, 4, 5, 6, 7, 8, 9, 10, 11] rfl)
                          · have kc380378 : r380376.toInt = v380080.toInt := by have h9 := c380378; rw [xk_eq] at h9; exact h9
                            refine lv_aload hx hb dX7_produce_171 (lv_at hl 4 rfl) ?_
                            refine lv_iload hx hb dX7_produce_173 (lv_at hl 0 rfl) ?_
                            refine lv_iconst (v := 3) hx hb dX7_produce_175 (by decide) ?_
                            obtain ⟨j380381, hj380381⟩ := wG_6 (cy := cy) (N := N) (T := T) (I := I) (Q := Q) (J := J) (hM.lg hjn380077).1 (hM.lg hjn380077).2
                            refine vp_callSi (W.runV (As := [.int y380249, .int 3]) (rest := []) ⟨hx, hb, hml, hown, hts⟩ (f_X6_get l dC dI cy w L K N T Q I J (5 * xp.toNatClampNeg + n380077) y380249 3 σ hM hjn380077 (by omega) (by omega) (by omega) (by omega) (by unfold vp_in; decide) hMR) (cwV 2 hts gX7_produce_X6_get rfl rfl rfl (by decide +kernel) ⟨Nat.le_of_ble_eq_true rfl, Nat.le_of_ble_eq_true rfl⟩) ⟨mb_blind, va_recv hK hP (ci := 6) (q0 := j380381) rfl hj380381, fun U hU hW => ⟨rfl, mb_pre hP hK hU hW⟩⟩ rfl rfl hl.1 rfl (lv_room (Nat.le_of_ble_eq_true rfl)) dX7_produce_176 ⟨Nat.le_of_ble_eq_true rfl, Nat.le_of_ble_eq_true rfl⟩) (fun r380380 hr380380 => ?_)
                            rw [show (3 : Int32).toNatClampNeg = 3 by decide] at hr380380
                            refine lv_iload hx hb dX7_produce_179 (lv_at hl 2 rfl) ?_
                            refine lv_icmp_eq (tgt := 187) hx hb dX7_produce_181 (by decide) (fun c380382 => ?_) (fun c380382 => ?_)
                            · have kc380382 : r380380.toInt = v380083.toInt := by have h9 := c380382; rw [xk_eq] at h9; exact h9
                              refine lv_aload hx hb dX7_produce_187 (lv_at hl 4 rfl) ?_
                              refine lv_iload hx hb dX7_produce_189 (lv_at hl 0 rfl) ?_
                              refine lv_iconst (v := 4) hx hb dX7_produce_191 (by decide) ?_
                              obtain ⟨j380384, hj380384⟩ := wG_6 (cy := cy) (N := N) (T := T) (I := I) (Q := Q) (J := J) (hM.lg hjn380077).1 (hM.lg hjn380077).2
                              refine vp_callSi (W.runV (As := [.int y380249, .int 4]) (rest := []) ⟨hx, hb, hml, hown, hts⟩ (f_X6_get l dC dI cy w L K N T Q I J (5 * xp.toNatClampNeg + n380077) y380249 4 σ hM hjn380077 (by omega) (by omega) (by omega) (by omega) (by unfold vp_in; decide) hMR) (cwV 2 hts gX7_produce_X6_get rfl rfl rfl (by decide +kernel) ⟨Nat.le_of_ble_eq_true rfl, Nat.le_of_ble_eq_true rfl⟩) ⟨mb_blind, va_recv hK hP (ci := 6) (q0 := j380384) rfl hj380384, fun U hU hW => ⟨rfl, mb_pre hP hK hU hW⟩⟩ rfl rfl hl.1 rfl (lv_room (Nat.le_of_ble_eq_true rfl)) dX7_produce_192 ⟨Nat.le_of_ble_eq_true rfl, Nat.le_of_ble_eq_true rfl⟩) (fun r380383 hr380383 => ?_)
                              rw [show (4 : Int32).toNatClampNeg = 4 by decide] at hr380383
                              refine lv_iload_n hx hb dX7_produce_195 rfl (lv_at hl 8 rfl) ?_
                              refine lv_icmp_ne (tgt := 202) hx hb dX7_produce_196 (by decide) (fun c380385 => ?_) (fun c380385 => ?_)
                              · have kc380385 : ¬ (r380383.toInt = xs.toInt) := by have h9 := c380385; rw [xk_eq] at h9; exact h9
                                refine lv_iload hx hb dX7_produce_202 (lv_at hl 0 rfl) ?_
                                refine lv_istore (lv' := [(10, .int y380249), (11, .int y380249), (9, .int v380083), (8, .int v380080), (7, .ref (w (21 + (5 * xp.toNatClampNeg + n380077)))), (0, .ref (w 0)), (1, .int xp), (2, .int xh), (3, .int xs), (4, .int xk), (5, .int xv), (6, .int al)]) hx hb dX7_produce_204 hl (by decide) rfl (fun ls hl => ?_)
                                obtain ⟨v380386, ev380386⟩ : ∃ y : Int32, y = y380249 + Int32.ofInt 1 := ⟨_, rfl⟩
                                refine lv_iinc (v := v380386) (lv' := [(11, .int v380386), (10, .int y380249), (9, .int v380083), (8, .int v380080), (7, .ref (w (21 + (5 * xp.toNatClampNeg + n380077)))), (0, .ref (w 0)), (1, .int xp), (2, .int xh), (3, .int xs), (4, .int xk), (5, .int xv), (6, .int al)]) hx hb dX7_produce_206 hl (k := 1) rfl ev380386.symm (by decide) rfl (fun ls hl => ?_)
                                refine lv_goto (tgt := 137) hx hb dX7_produce_209 (by decide) ?_
                                have tv380386 : v380386.toInt = y380249.toInt + 1 := by rw [ev380386, show y380249 + Int32.ofInt 1 = y380249 + 1 from rfl]; exact xinc (y := I (w (21 + (5 * xp.toNatClampNeg + n380077))) 2) (by rw [xk_lt]; omega)
                                exact ih380248 _ _ _ (by omega) (by omega) (⟨by omega, Or.inr ⟨by omega, by omega⟩, by omega, by rw [clsucc (y := y380249) (by omega) tv380386, ← fU_step (hMR.lte hjn380077 (by omega) (by omega)) (fun q => c380385 (by rw [hr380383]; exact (of_decide_eq_true q).2.2.2))]; exact hiv380248.2.2.2.1, by rw [clsucc (y := y380249) (by omega) tv380386, fD_yes (hMR.leb hjn380077 (by omega)) (decide_eq_true ⟨by rw [← hr380372]; exact c380374, by rw [← hr380376]; exact c380378, by rw [← hr380380]; exact c380382⟩)]; exact xcl9 (by omega)⟩)  (lv_sub hl [0, 1, 2, 3, 4, 5, 6, 7, 8, 9, 10, 11] rfl)
                              · have kc380385 : r380383.toInt = xs.toInt := by have h9 := c380385; rw [xk_eq] at h9; exact h9
                                refine lv_iload hx hb dX7_produce_199 (lv_at hl 0 rfl) ?_
                                rw [hQz]
                                exact W.iret (v := y380249) hx hb hr (fun t ht hW => ⟨⟨y380249, (I, J), rfl, ⟨⟨hML.mono (by omega), hMD, hMU⟩, by have e9 : qPr σ xp xh xs xk xv al = (σ, y380249) := (by have hk9 : xh - xh / 8 * 8 = v380080 := (by simp only [ev380080]); have hg9 : xh / 8 = v380083 := (by simp only [ev380083]); rw [qPr, if_neg (by have k9 := c380003; simp only [hir380001] at k9; exact k9), if_neg (fun q => c380073 q.2), oqn380077]; show (if _ then _ else _) = _; rw [if_neg c380005]; rw [if_neg (fun q => q.elim (fun z => z (by have k9 := c380088; simp only [sx380087, ev380080, ev380083] at k9; exact k9)) (by have k9 := c380092; simp only [sx380091, ev380080] at k9; exact k9))]; rw [if_neg (fun q => q.2 (by have k9 := c380244; simp only [sx380239, sx380243] at k9; exact k9))]; rw [hk9, hg9, ← hiv380248.2.2.2.1, fU_hit (hMR.lte hjn380077 (by omega) (by omega)) (decide_eq_true ⟨by rw [← hr380372]; exact c380374, by rw [← hr380376]; exact c380378, by rw [← hr380380]; exact c380382, by rw [← hr380383]; exact c380385⟩)]; show (_, nI _) = _; rw [nI, ← xcl9 (by omega)]); show MR w I J _; rw [e9]; exact hMR, by have e9 : qPr σ xp xh xs xk xv al = (σ, y380249) := (by have hk9 : xh - xh / 8 * 8 = v380080 := (by simp only [ev380080]); have hg9 : xh / 8 = v380083 := (by simp only [ev380083]); rw [qPr, if_neg (by have k9 := c380003; simp only [hir380001] at k9; exact k9), if_neg (fun q => c380073 q.2), oqn380077]; show (if _ then _ else _) = _; rw [if_neg c380005]; rw [if_neg (fun q => q.elim (fun z => z (by have k9 := c380088; simp only [sx380087, ev380080, ev380083] at k9; exact k9)) (by have k9 := c380092; simp only [sx380091, ev380080] at k9; exact k9))]; rw [if_neg (fun q => q.2 (by have k9 := c380244; simp only [sx380239, sx380243] at k9; exact k9))]; rw [hk9, hg9, ← hiv380248.2.2.2.1, fU_hit (hMR.lte hjn380077 (by omega) (by omega)) (decide_eq_true ⟨by rw [← hr380372]; exact c380374, by rw [← hr380376]; exact c380378, by rw [← hr380380]; exact c380382, by rw [← hr380383]; exact c380385⟩)]; show (_, nI _) = _; rw [nI, ← xcl9 (by omega)]); show _ = _; rw [e9]⟩, by rw [ht]; exact hP, va_K.moved hW.alike hK, hD⟩, hS.F ht⟩) hS.2.2 dX7_produce_201
                            · have kc380382 : ¬ (r380380.toInt = v380083.toInt) := by have h9 := c380382; rw [xk_eq] at h9; exact h9
                              refine lv_goto (tgt := 206) hx hb dX7_produce_184 (by decide) ?_
                              obtain ⟨v380387, ev380387⟩ : ∃ y : Int32, y = y380249 + Int32.ofInt 1 := ⟨_, rfl⟩
                              refine lv_iinc (v := v380387) (lv' := [(11, .int v380387), (10, .int y380250), (9, .int v380083), (8, .int v380080), (7, .ref (w (21 + (5 * xp.toNatClampNeg + n380077)))), (0, .ref (w 0)), (1, .int xp), (2, .int xh), (3, .int xs), (4, .int xk), (5, .int xv), (6, .int al)]) hx hb dX7_produce_206 hl (k := 0) rfl ev380387.symm (by decide) rfl (fun ls hl => ?_)
                              refine lv_goto (tgt := 137) hx hb dX7_produce_209 (by decide) ?_
                              have tv380387 : v380387.toInt = y380249.toInt + 1 := by rw [ev380387, show y380249 + Int32.ofInt 1 = y380249 + 1 from rfl]; exact xinc (y := I (w (21 + (5 * xp.toNatClampNeg + n380077))) 2) (by rw [xk_lt]; omega)
                              exact ih380248 _ _ _ (by omega) (by omega) (⟨by omega, hiv380248.2.1, by omega, by rw [clsucc (y := y380249) (by omega) tv380387, ← fU_step (hMR.lte hjn380077 (by omega) (by omega)) (fun q => c380382 (by rw [hr380380]; exact (of_decide_eq_true q).2.2.1))]; exact hiv380248.2.2.2.1, by rw [clsucc (y := y380249) (by omega) tv380387, fD_no (hMR.leb hjn380077 (by omega)) (fun q => c380382 (by rw [hr380380]; exact (of_decide_eq_true q).2.2))]; exact hiv380248.2.2.2.2⟩)  (lv_sub hl [0, 1, 2, 3, 4, 5, 6, 7, 8, 9, 10, 11] rfl)
                  exact hLP380248 _ _ _ _ (Nat.lt_succ_self _) (by omega) (⟨by omega, Or.inl (by decide), by omega, by rw [hMR.vb hjn380077, ex380247], by rw [hMR.vb hjn380077, ex380247, Nat.sub_self]; rfl⟩)  (lv_sub hl [0, 1, 2, 3, 4, 5, 6, 7, 8, 9, 10, 11] rfl)
                · have kc380244 : ¬ (x380243.toInt ≤ (sp_bc x380239).toInt) := by have h9 := c380244; rw [xk_le] at h9; exact h9
                  refine lv_bipush (v := (-5)) hx hb dX7_produce_119 (by decide) ?_
                  exact W.iret (v := (-5)) hx hb hr (fun t ht hW => ⟨⟨(-5), (I, J), rfl, ⟨⟨hML.mono (by omega), hMD, hMU⟩, by have e9 : qPr σ xp xh xs xk xv al = (σ, (-5)) := (by have hk9 : xh - xh / 8 * 8 = v380080 := (by simp only [ev380080]); have hg9 : xh / 8 = v380083 := (by simp only [ev380083]); rw [qPr, if_neg (by have k9 := c380003; simp only [hir380001] at k9; exact k9), if_neg (fun q => c380073 q.2), oqn380077]; show (if _ then _ else _) = _; rw [if_neg c380005]; rw [if_neg (fun q => q.elim (fun z => z (by have k9 := c380088; simp only [sx380087, ev380080, ev380083] at k9; exact k9)) (by have k9 := c380092; simp only [sx380091, ev380080] at k9; exact k9))]; rw [if_pos ⟨c380093, (by have k9 := c380244; simp only [sx380239, sx380243] at k9; exact k9)⟩]); show MR w I J _; rw [e9]; exact hMR, by have e9 : qPr σ xp xh xs xk xv al = (σ, (-5)) := (by have hk9 : xh - xh / 8 * 8 = v380080 := (by simp only [ev380080]); have hg9 : xh / 8 = v380083 := (by simp only [ev380083]); rw [qPr, if_neg (by have k9 := c380003; simp only [hir380001] at k9; exact k9), if_neg (fun q => c380073 q.2), oqn380077]; show (if _ then _ else _) = _; rw [if_neg c380005]; rw [if_neg (fun q => q.elim (fun z => z (by have k9 := c380088; simp only [sx380087, ev380080, ev380083] at k9; exact k9)) (by have k9 := c380092; simp only [sx380091, ev380080] at k9; exact k9))]; rw [if_pos ⟨c380093, (by have k9 := c380244; simp only [sx380239, sx380243] at k9; exact k9)⟩]); show _ = _; rw [e9]⟩, by rw [ht]; exact hP, va_K.moved hW.alike hK, hD⟩, hS.F ht⟩) hS.2.2 dX7_produce_121
            · have kc380092 : x380091.toInt = 2 := by have h9 := c380092; rw [xk_eq, xk_2] at h9; exact h9
              refine lv_bipush (v := (-4)) hx hb dX7_produce_93 (by decide) ?_
              exact W.iret (v := (-4)) hx hb hr (fun t ht hW => ⟨⟨(-4), (I, J), rfl, ⟨⟨hML.mono (by omega), hMD, hMU⟩, by have e9 : qPr σ xp xh xs xk xv al = (σ, (-4)) := (by have hk9 : xh - xh / 8 * 8 = v380080 := (by simp only [ev380080]); have hg9 : xh / 8 = v380083 := (by simp only [ev380083]); rw [qPr, if_neg (by have k9 := c380003; simp only [hir380001] at k9; exact k9), if_neg (fun q => c380073 q.2), oqn380077]; show (if _ then _ else _) = _; rw [if_neg c380005]; rw [if_pos (Or.inr (by have k9 := c380092; simp only [sx380091, ev380080] at k9; exact k9))]); show MR w I J _; rw [e9]; exact hMR, by have e9 : qPr σ xp xh xs xk xv al = (σ, (-4)) := (by have hk9 : xh - xh / 8 * 8 = v380080 := (by simp only [ev380080]); have hg9 : xh / 8 = v380083 := (by simp only [ev380083]); rw [qPr, if_neg (by have k9 := c380003; simp only [hir380001] at k9; exact k9), if_neg (fun q => c380073 q.2), oqn380077]; show (if _ then _ else _) = _; rw [if_neg c380005]; rw [if_pos (Or.inr (by have k9 := c380092; simp only [sx380091, ev380080] at k9; exact k9))]); show _ = _; rw [e9]⟩, by rw [ht]; exact hP, va_K.moved hW.alike hK, hD⟩, hS.F ht⟩) hS.2.2 dX7_produce_95
      · refine lv_iconst (v := (-1)) hx hb dX7_produce_20 (by decide) ?_
        exact W.iret (v := (-1)) hx hb hr (fun t ht hW => ⟨⟨(-1), (I, J), rfl, ⟨⟨hML.mono (by omega), hMD, hMU⟩, by have e9 : qPr σ xp xh xs xk xv al = (σ, (-1)) := (by rw [qPr, if_neg (by have k9 := c380003; simp only [hir380001] at k9; exact k9), if_pos ⟨c380005, c380073⟩]); show MR w I J _; rw [e9]; exact hMR, by have e9 : qPr σ xp xh xs xk xv al = (σ, (-1)) := (by rw [qPr, if_neg (by have k9 := c380003; simp only [hir380001] at k9; exact k9), if_pos ⟨c380005, c380073⟩]); show _ = _; rw [e9]⟩, by rw [ht]; exact hP, va_K.moved hW.alike hK, hD⟩, hS.F ht⟩) hS.2.2 dX7_produce_21
