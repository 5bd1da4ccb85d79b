theorem oTn_stop {σ : SG} {F l k m : Nat} (h : (oTn σ F l k).1.2.1 l 2 ≤ (oTn σ F l k).1.2.1 F 2) (hk : k ≤ m) : oTn σ F l m = oTn σ F l k := by
  induction m with
  | zero => rw [show k = 0 by omega]
  | succ m ih =>
    by_cases q : k = m + 1
    · rw [q]
    · have i := ih (by omega)
      show (if _ then _ else _) = _
      rw [i, if_pos h]
theorem xadd1 {x y : Int32} (h : x = y + 1) : x = y + 1 := h
set_option maxHeartbeats 4000000 in
set_option maxRecDepth 100000 in
/-- follow, exactly -/
theorem f_X7_follow (l : Launch) (dC : Nat → ClassId) (dI : Nat → Nat → Nat) (cy : Nat → ClassId) (w : Nat → Nat) (L : List Nat) (K N : Nat → Nat) (T : Nat → Nat → Nat) (Q : Nat → Nat → Option Nat) (I J : Nat → Nat → Int32) (sz : Nat) (E : Int) (xn : Int32) (xp : Int32) (σ : SG) (hM : MS w L K N T Q) (hI : MI w E I J) (hE : E ≤ 1000) (hMR : MR w I J σ) : Met l yX7_follow wsX7_follow ({ frames := 4, cells := 0, slots := 0, locals := 99 }) (va_Pc [.ref (w 0), .int xn, .int xp] (mW dC dI cy L (wF cy K N T I Q J) sz)) (va_Qi (fun (r : Int32) (d : (Nat → Nat → Int32) × (Nat → Nat → Int32)) => MI w (E + 5) d.1 d.2 ∧ MR w d.1 d.2 (qFo σ xn xp).1 ∧ r = (qFo σ xn xp).2) (fun (d : (Nat → Nat → Int32) × (Nat → Nat → Int32)) t => va_P (dC, dI) vwCl (va_pl L (wF cy K N T d.1 Q d.2)) t.heap ∧ va_K (dC, dI) vwCl (mTy cy) t ∧ va_D (va_A (va_pl L (wF cy K N T I Q J)) sz) (va_pl L (wF cy K N T d.1 Q d.2))) (va_A (va_pl L (wF cy K N T I Q J)) sz)) 0 0 (va_A (va_pl L (wF cy K N T I Q J)) sz) := by
  refine Met.ofW (cc := cX7_follow) (maxL := 7) (ret := (some .int)) (by decide) rfl ?_
  intro p e s m args below meth c s₁ B hml hv
  obtain ⟨rfl, hsz, ⟨hP, hK⟩, hD0⟩ := hv
  have hx := B.exec
  have hb := B.bytes
  have hr := B.returns
  have hts := atoms_spec (ws := wsX7_follow) B.pre
  have hown : s.vm.findClass RX7 = some m.cls := findClass_of_methodNamed B.named
  have hlocks := B.notSynchronized
  have hi7 : ∀ w ∈ wsX70, w ∈ wsX7_follow := by decide +kernel
  have hi6 : ∀ w ∈ wsX60, w ∈ wsX7_follow := by decide +kernel
  have hl := lv_entry ([.ref (w 0), .int xn, .int xp]) (n := 7) (Nat.le_of_ble_eq_true rfl)
  rw [lg_entry_eq]
  generalize (lg_sl ([.ref (w 0), .int xn, .int xp]) ++ List.replicate (7 - (lg_sl ([.ref (w 0), .int xn, .int xp])).length) Slot.unset).toArray = ls at hl ⊢
  have hl : lv_has ls 7 [(0, .ref (w 0)), (1, .int xn), (2, .int xp)] := hl
  subst hsz
  have hD := hD0.self (sz := s.heap.size)
  generalize hAe : va_A (va_pl L (wF cy K N T I Q J)) s.heap.size = A at hD ⊢
  have hA : ∀ q : Nat, s.heap.size ≤ q → A q := fun q h => by rw [← hAe]; exact Or.inr h
  have hS : va_S A s.heap s.heap [] := va_S.rf
  have hR : RM w [] I J I J := RM.rf
  obtain ⟨hML, hMD, hMU⟩ := hI
  refine lv_aload_n hx hb dX7_follow_0 rfl (lv_at hl 0 rfl) ?_
  refine lv_iload_n hx hb dX7_follow_1 rfl (lv_at hl 1 rfl) ?_
  refine lv_iload_n hx hb dX7_follow_2 rfl (lv_at hl 2 rfl) ?_
  obtain ⟨j390002, hj390002⟩ := wG_7 (cy := cy) (N := N) (T := T) (I := I) (Q := Q) (J := J) (hM.at 0 (by decide)) (hM.k 0 (by decide) rfl)
  refine vp_callSi (W.runV (As := [.int xn, .int xp]) (rest := []) ⟨hx, hb, hml, hown, hts⟩ (f_X7_isReplica l dC dI cy w L K N T Q I J xn xp hM) (cwV 2 hts gX7_follow_X7_isReplica rfl rfl rfl (by decide +kernel) ⟨Nat.le_of_ble_eq_true rfl, Nat.le_of_ble_eq_true rfl⟩) ⟨mb_blind, va_recv hK hP (ci := 7) (q0 := j390002) rfl hj390002, fun U hU hW => ⟨rfl, mb_pre hP hK hU hW⟩⟩ rfl rfl hl.1 rfl (lv_room (Nat.le_of_ble_eq_true rfl)) dX7_follow_3 ⟨Nat.le_of_ble_eq_true rfl, Nat.le_of_ble_eq_true rfl⟩) (fun r390001 hr390001 => ?_)
  have hir390001 : r390001 = sp_ir (σ.1 2) (σ.1 3) xn xp := hr390001.trans (hMR.ir _ _)
  refine lv_if_eq (tgt := 27) hx hb dX7_follow_6 (by decide) (fun c390003 => ?_) (fun c390003 => ?_)
  · have kc390003 : r390001.toInt = 0 := by have h9 := c390003; rw [xk_eq, xk_0] at h9; exact h9
    refine lv_iconst (v := (-1)) hx hb dX7_follow_27 (by decide) ?_
    exact W.iret (v := (-1)) hx hb hr (fun t ht hW => ⟨⟨(-1), (I, J), rfl, ⟨⟨hML.mono (by omega), hMD, hMU⟩, by have e9 : qFo σ xn xp = (σ, (-1)) := (by rw [qFo, if_pos (by have k9 := c390003; simp only [hir390001] at k9; exact k9)]); show MR w I J _; rw [e9]; exact hMR, by have e9 : qFo σ xn xp = (σ, (-1)) := (by rw [qFo, if_pos (by have k9 := c390003; simp only [hir390001] at k9; exact k9)]); show _ = _; rw [e9]⟩, by rw [ht]; exact hP, va_K.moved hW.alike hK, hD⟩, hS.F ht⟩) hS.2.2 dX7_follow_28
  · have hrp390004 := sp_ir1 (by rw [← hir390001]; exact c390003)
    have kc390003 : ¬ (r390001.toInt = 0) := by have h9 := c390003; rw [xk_eq, xk_0] at h9; exact h9
    refine lv_aload_n hx hb dX7_follow_9 rfl (lv_at hl 0 rfl) ?_
    refine lv_iload_n hx hb dX7_follow_10 rfl (lv_at hl 1 rfl) ?_
    obtain ⟨j390006, hj390006⟩ := wG_7 (cy := cy) (N := N) (T := T) (I := I) (Q := Q) (J := J) (hM.at 0 (by decide)) (hM.k 0 (by decide) rfl)
    refine vp_callSi (W.runV (As := [.int xn]) (rest := []) ⟨hx, hb, hml, hown, hts⟩ (c_X7_isUp l dC dI cy w L K N T Q I J xn hM) (cwV 1 hts gX7_follow_X7_isUp rfl rfl rfl (by decide +kernel) ⟨Nat.le_of_ble_eq_true rfl, Nat.le_of_ble_eq_true rfl⟩) ⟨mb_blind, va_recv hK hP (ci := 7) (q0 := j390006) rfl hj390006, fun U hU hW => ⟨rfl, mb_pre hP hK hU hW⟩⟩ rfl rfl hl.1 rfl (lv_room (Nat.le_of_ble_eq_true rfl)) dX7_follow_11 ⟨Nat.le_of_ble_eq_true rfl, Nat.le_of_ble_eq_true rfl⟩) (fun r390005 hr390005 => ?_)
    have hir390005 : r390005 = sp_iu (σ.1 0 0) xn := hr390005.trans (hMR.iu _)
    refine lv_if_eq (tgt := 27) hx hb dX7_follow_14 (by decide) (fun c390007 => ?_) (fun c390007 => ?_)
    · have kc390007 : r390005.toInt = 0 := by have h9 := c390007; rw [xk_eq, xk_0] at h9; exact h9
      refine lv_iconst (v := (-1)) hx hb dX7_follow_27 (by decide) ?_
      exact W.iret (v := (-1)) hx hb hr (fun t ht hW => ⟨⟨(-1), (I, J), rfl, ⟨⟨hML.mono (by omega), hMD, hMU⟩, by have e9 : qFo σ xn xp = (σ, (-1)) := (by rw [qFo, if_neg (by have k9 := c390003; simp only [hir390001] at k9; exact k9), if_pos (by have k9 := c390007; simp only [hir390005] at k9; exact k9)]); show MR w I J _; rw [e9]; exact hMR, by have e9 : qFo σ xn xp = (σ, (-1)) := (by rw [qFo, if_neg (by have k9 := c390003; simp only [hir390001] at k9; exact k9), if_pos (by have k9 := c390007; simp only [hir390005] at k9; exact k9)]); show _ = _; rw [e9]⟩, by rw [ht]; exact hP, va_K.moved hW.alike hK, hD⟩, hS.F ht⟩) hS.2.2 dX7_follow_28
    · have hup390008 := sp_iu1 (by rw [← hr390005]; exact c390007)
      have kc390007 : ¬ (r390005.toInt = 0) := by have h9 := c390007; rw [xk_eq, xk_0] at h9; exact h9
      refine lv_aload_n hx hb dX7_follow_17 rfl (lv_at hl 0 rfl) ?_
      obtain ⟨j390009, hj390009⟩ := wG_7 (cy := cy) (N := N) (T := T) (I := I) (Q := Q) (J := J) (hM.at 0 (by decide)) (hM.k 0 (by decide) rfl)
      refine va_get (D := (dC, dI)) (ci := 7) (v := .ref (T (w 0) 3)) (C := RX7) (T := TX7) (N := 18) hx hb hts hi7 hown hK hP j390009 hj390009 rfl 3 (by decide) (hts (.fieldLink RX7 22 "TallyLogsModel" "leader" "[I") (by decide +kernel)) (fun _ h9 => h9) rfl dX7_follow_18 ?_
      refine W.eq (g2 := F0 m 21 ls [.ref (w 4)]) (by rw [hM.t 3 (by decide)]) ?_
      refine lv_iload_n hx hb dX7_follow_21 rfl (lv_at hl 2 rfl) ?_
      obtain ⟨j390010, hj390010⟩ := wG_20 (cy := cy) (N := N) (T := T) (I := I) (Q := Q) (J := J) (hM.at 4 (by decide)) (hM.k 4 (by decide) rfl)
      refine va_iald hx hb hK hP j390010 1 hj390010 rfl (hM.inN (n := 4) 4 (by decide) rfl rfl hrp390004.1.1) dX7_follow_22 ?_
      refine lv_topi (fun x390011 ex390011 => ?_)
      have sx390011 : x390011 = σ.1 4 xp.toNatClampNeg := ex390011.trans (hMR.a (k := 4) (by decide) (by decide) (show _ < 4 from vp_lt (n := 4) hrp390004.1.1))
      refine lv_iload_n hx hb dX7_follow_23 rfl (lv_at hl 1 rfl) ?_
      refine lv_icmp_ne (tgt := 29) hx hb dX7_follow_24 (by decide) (fun c390012 => ?_) (fun c390012 => ?_)
      · have kc390012 : ¬ (x390011.toInt = xn.toInt) := by have h9 := c390012; rw [xk_eq] at h9; exact h9
        refine lv_aload_n hx hb dX7_follow_29 rfl (lv_at hl 0 rfl) ?_
        refine lv_iload_n hx hb dX7_follow_30 rfl (lv_at hl 2 rfl) ?_
        obtain ⟨j390014, hj390014⟩ := wG_7 (cy := cy) (N := N) (T := T) (I := I) (Q := Q) (J := J) (hM.at 0 (by decide)) (hM.k 0 (by decide) rfl)
        refine va_csq (W.runV (As := [.int xp]) (rest := []) ⟨hx, hb, hml, hown, hts⟩ (c_X7_own l dC dI cy w L K N T Q I J xp hM hrp390004.1.1) (cwV 1 hts gX7_follow_X7_own rfl rfl rfl (by decide +kernel) ⟨Nat.le_of_ble_eq_true rfl, Nat.le_of_ble_eq_true rfl⟩) ⟨mb_blind, va_recv hK hP (ci := 7) (q0 := j390014) rfl hj390014, fun U hU hW => ⟨rfl, mb_pre hP hK hU hW⟩⟩ rfl rfl hl.1 rfl (lv_room (Nat.le_of_ble_eq_true rfl)) dX7_follow_31 ⟨Nat.le_of_ble_eq_true rfl, Nat.le_of_ble_eq_true rfl⟩) (fun r390013 hr390013 => ?_)
        subst hr390013
        rcases sp_ow_cs w (I (w 0) 16) (J (w 4) xp.toNatClampNeg) xp.toNatClampNeg with hon390015 | ⟨n390015, hnn390015, eln390015, hubn390015, hon390015⟩
        · refine W.eq (g2 := F0 m 34 ls [.null]) (by rw [hon390015]; rfl) ?_
          have oqn390015 := oOw_no hMR (vp_lt (n := 4) hrp390004.1.1) hon390015
          refine lv_astore_nN (lv' := [(3, .null), (0, .ref (w 0)), (1, .int xn), (2, .int xp)]) hx hb dX7_follow_34 rfl hl (by decide) rfl (fun ls hl => ?_)
          refine lv_aload_n hx hb dX7_follow_35 rfl (lv_at hl 1 rfl) ?_
          obtain ⟨j390016, hj390016⟩ := wG_7 (cy := cy) (N := N) (T := T) (I := I) (Q := Q) (J := J) (hM.at 0 (by decide)) (hM.k 0 (by decide) rfl)
          refine va_get (D := (dC, dI)) (ci := 7) (v := .ref (T (w 0) 0)) (C := RX7) (T := TX7) (N := 18) hx hb hts hi7 hown hK hP j390016 hj390016 rfl 0 (by decide) (hts (.fieldLink RX7 11 "TallyLogsModel" "log" "[[LTallyLogsModel$Log;") (by decide +kernel)) (fun _ h9 => h9) rfl dX7_follow_36 ?_
          refine W.eq (g2 := F0 m 39 ls [.ref (w 1)]) (by rw [hM.t 0 (by decide)]) ?_
          refine lv_iload_n hx hb dX7_follow_39 rfl (lv_at hl 3 rfl) ?_
          obtain ⟨j390017, hj390017⟩ := wG_22 (cy := cy) (N := N) (T := T) (I := I) (Q := Q) (J := J) (hM.at 1 (by decide)) (hM.k 1 (by decide) rfl)
          refine xg_aldg hx hb hK hP j390017 2 hj390017 rfl hrp390004.1.1 dX7_follow_40 ?_
          refine W.eq (g2 := F0 m 41 ls [.ref (w (17 + xp.toNatClampNeg))]) (by rw [hM.qo (vp_lt (n := 4) hrp390004.1.1)]; rfl) ?_
          refine lv_iload_n hx hb dX7_follow_41 rfl (lv_at hl 2 rfl) ?_
          obtain ⟨j390018, hj390018⟩ := wG_23 (cy := cy) (N := N) (T := T) (I := I) (Q := Q) (J := J) (hM.row (vp_lt (n := 4) hrp390004.1.1)).1 (hM.row (vp_lt (n := 4) hrp390004.1.1)).2
          refine va_aldq hx hb hK hP j390018 3 hj390018 rfl hup390008.1 dX7_follow_42 ?_
          have hjl390019 : (5 * xp.toNatClampNeg + xn.toNatClampNeg) < 20 := by have h1 := (vp_lt (n := 4) hrp390004.1.1); have h2 := (vp_lt (n := 5) hup390008.1); omega
          refine W.eq (g2 := F0 m 43 ls [.ref (w (21 + (5 * xp.toNatClampNeg + xn.toNatClampNeg)))]) (by rw [hM.qr (vp_lt (n := 4) hrp390004.1.1) (vp_lt (n := 5) hup390008.1)]; rfl) ?_
          refine lv_astore (lv' := [(4, .ref (w (21 + (5 * xp.toNatClampNeg + xn.toNatClampNeg)))), (3, .null), (0, .ref (w 0)), (1, .int xn), (2, .int xp)]) hx hb dX7_follow_43 hl (by decide) rfl (fun ls hl => ?_)
          refine lv_aload_nN hx hb dX7_follow_45 rfl (lv_at hl 1 rfl) ?_
          refine lv_ifnonnullN hx hb dX7_follow_46 ?_
          refine lv_bipush (v := (-2)) hx hb dX7_follow_49 (by decide) ?_
          exact W.iret (v := (-2)) hx hb hr (fun t ht hW => ⟨⟨(-2), (I, J), rfl, ⟨⟨hML.mono (by omega), hMD, hMU⟩, by have e9 : qFo σ xn xp = (σ, (-2)) := (by rw [qFo, if_neg (by have k9 := c390003; simp only [hir390001] at k9; exact k9), if_neg (by have k9 := c390007; simp only [hir390005] at k9; exact k9), if_neg (by have k9 := c390012; simp only [sx390011] at k9; exact k9), oqn390015]); show MR w I J _; rw [e9]; exact hMR, by have e9 : qFo σ xn xp = (σ, (-2)) := (by rw [qFo, if_neg (by have k9 := c390003; simp only [hir390001] at k9; exact k9), if_neg (by have k9 := c390007; simp only [hir390005] at k9; exact k9), if_neg (by have k9 := c390012; simp only [sx390011] at k9; exact k9), oqn390015]); show _ = _; rw [e9]⟩, by rw [ht]; exact hP, va_K.moved hW.alike hK, hD⟩, hS.F ht⟩) hS.2.2 dX7_follow_51
        · have hjn390015 : (5 * xp.toNatClampNeg + n390015) < 20 := by have h1 := vp_lt (n := 4) hrp390004.1.1; omega
          refine W.eq (g2 := F0 m 34 ls [.ref (w (21 + (5 * xp.toNatClampNeg + n390015)))]) (by rw [hon390015]; rfl) ?_
          have oqn390015 := oOw_of hM hMR (vp_lt (n := 4) hrp390004.1.1) hnn390015 eln390015 hubn390015
          refine lv_astore_n (lv' := [(3, .ref (w (21 + (5 * xp.toNatClampNeg + n390015)))), (0, .ref (w 0)), (1, .int xn), (2, .int xp)]) hx hb dX7_follow_34 rfl hl (by decide) rfl (fun ls hl => ?_)
          refine lv_aload_n hx hb dX7_follow_35 rfl (lv_at hl 1 rfl) ?_
          obtain ⟨j390020, hj390020⟩ := wG_7 (cy := cy) (N := N) (T := T) (I := I) (Q := Q) (J := J) (hM.at 0 (by decide)) (hM.k 0 (by decide) rfl)
          refine va_get (D := (dC, dI)) (ci := 7) (v := .ref (T (w 0) 0)) (C := RX7) (T := TX7) (N := 18) hx hb hts hi7 hown hK hP j390020 hj390020 rfl 0 (by decide) (hts (.fieldLink RX7 11 "TallyLogsModel" "log" "[[LTallyLogsModel$Log;") (by decide +kernel)) (fun _ h9 => h9) rfl dX7_follow_36 ?_
          refine W.eq (g2 := F0 m 39 ls [.ref (w 1)]) (by rw [hM.t 0 (by decide)]) ?_
          refine lv_iload_n hx hb dX7_follow_39 rfl (lv_at hl 3 rfl) ?_
          obtain ⟨j390021, hj390021⟩ := wG_22 (cy := cy) (N := N) (T := T) (I := I) (Q := Q) (J := J) (hM.at 1 (by decide)) (hM.k 1 (by decide) rfl)
          refine xg_aldg hx hb hK hP j390021 2 hj390021 rfl hrp390004.1.1 dX7_follow_40 ?_
          refine W.eq (g2 := F0 m 41 ls [.ref (w (17 + xp.toNatClampNeg))]) (by rw [hM.qo (vp_lt (n := 4) hrp390004.1.1)]; rfl) ?_
          refine lv_iload_n hx hb dX7_follow_41 rfl (lv_at hl 2 rfl) ?_
          obtain ⟨j390022, hj390022⟩ := wG_23 (cy := cy) (N := N) (T := T) (I := I) (Q := Q) (J := J) (hM.row (vp_lt (n := 4) hrp390004.1.1)).1 (hM.row (vp_lt (n := 4) hrp390004.1.1)).2
          refine va_aldq hx hb hK hP j390022 3 hj390022 rfl hup390008.1 dX7_follow_42 ?_
          have hjl390023 : (5 * xp.toNatClampNeg + xn.toNatClampNeg) < 20 := by have h1 := (vp_lt (n := 4) hrp390004.1.1); have h2 := (vp_lt (n := 5) hup390008.1); omega
          refine W.eq (g2 := F0 m 43 ls [.ref (w (21 + (5 * xp.toNatClampNeg + xn.toNatClampNeg)))]) (by rw [hM.qr (vp_lt (n := 4) hrp390004.1.1) (vp_lt (n := 5) hup390008.1)]; rfl) ?_
          refine lv_astore (lv' := [(4, .ref (w (21 + (5 * xp.toNatClampNeg + xn.toNatClampNeg)))), (3, .ref (w (21 + (5 * xp.toNatClampNeg + n390015)))), (0, .ref (w 0)), (1, .int xn), (2, .int xp)]) hx hb dX7_follow_43 hl (by decide) rfl (fun ls hl => ?_)
          refine lv_aload_n hx hb dX7_follow_45 rfl (lv_at hl 1 rfl) ?_
          refine lv_ifnonnull (tgt := 52) hx hb dX7_follow_46 (by decide) ?_
          obtain ⟨sg390024_73, esg390024_73⟩ : ∃ z, z = oAg σ (5 * xp.toNatClampNeg + xn.toNatClampNeg) (5 * xp.toNatClampNeg + n390015) := ⟨_, rfl⟩
          obtain ⟨sg390024_147, esg390024_147⟩ : ∃ z, z = oCt sg390024_73 (5 * xp.toNatClampNeg + xn.toNatClampNeg) (5 * xp.toNatClampNeg + n390015) := ⟨_, rfl⟩
          obtain ⟨sg390024_196, esg390024_196⟩ : ∃ z, z = oF2 (oF1 sg390024_147 (5 * xp.toNatClampNeg + xn.toNatClampNeg)) (5 * xp.toNatClampNeg + xn.toNatClampNeg) (5 * xp.toNatClampNeg + n390015) := ⟨_, rfl⟩
          obtain ⟨sg390024_220, esg390024_220⟩ : ∃ z, z = oF3 sg390024_196 (5 * xp.toNatClampNeg + xn.toNatClampNeg) (5 * xp.toNatClampNeg + n390015) xp.toNatClampNeg xn := ⟨_, rfl⟩
          have hFL : ¬ (5 * xp.toNatClampNeg + xn.toNatClampNeg) = (5 * xp.toNatClampNeg + n390015) := by
            intro q
            have q2 : xn.toNatClampNeg = n390015 := by omega
            refine c390012 ?_
            rw [ex390011, eln390015, ← q2]
            exact (xnI hup390008.1 (by decide)).symm
          obtain ⟨ha390025, hb390025, hc390025, hd390025, he390025, hf390025⟩ := hML (5 * xp.toNatClampNeg + xn.toNatClampNeg) hjl390023
          obtain ⟨ha390026, hb390026, hc390026, hd390026, he390026, hf390026⟩ := hML (5 * xp.toNatClampNeg + n390015) hjn390015
          have hMX : MLx w E (5 * xp.toNatClampNeg + xn.toNatClampNeg) I := hML.x
          refine wq_gen (fun Qz hQz => ?_)
          have hJN73 : ∀ (Ia390027 Ja390027 : Nat → Nat → Int32) (H : Heap) (locs : List Loc) (ls : Array Slot), FS w E (5 * xp.toNatClampNeg + xn.toNatClampNeg) (5 * xp.toNatClampNeg + n390015) Ia390027 → Ja390027 (w 4) xp.toNatClampNeg = nI n390015 → RM w [] I J Ia390027 Ja390027 → MD w Ja390027 → MU w Ia390027 → MR w Ia390027 Ja390027 sg390024_73 → va_P (dC, dI) vwCl (va_pl L (wF cy K N T Ia390027 Q Ja390027)) H → va_D A (va_pl L (wF cy K N T Ia390027 Q Ja390027)) → va_S A s.heap H locs → lv_has ls 7 [(0, .ref (w 0)), (1, .int xn), (2, .int xp), (3, .ref (w (21 + (5 * xp.toNatClampNeg + n390015)))), (4, .ref (w (21 + (5 * xp.toNatClampNeg + xn.toNatClampNeg))))] → W p l e (headSpec wsX7_follow ({ frames := 4, cells := 0, slots := 0, locals := 99 })).room s m ([.ref (w 0), .int xn, .int xp] : List Value).toArray below meth c H locs 0 0 Qz (F0 m 73 ls []) := by
            intro Ia390027 Ja390027 H locs ls hFS el390027 hR hMD hMU hMR hP hD hS hl
            obtain ⟨hMX, fa390027, fb390027, fc390027, fd390027, fe390027⟩ := hFS
            obtain ⟨la390027, lb390027, lc390027, ld390027, le390027, lf390027⟩ := hMX (5 * xp.toNatClampNeg + n390015) hjn390015 (by omega)
            have hJN147 : ∀ (Ia390028 Ja390028 : Nat → Nat → Int32) (H : Heap) (locs : List Loc) (ls : Array Slot), FS w E (5 * xp.toNatClampNeg + xn.toNatClampNeg) (5 * xp.toNatClampNeg + n390015) Ia390028 → Ja390028 (w 4) xp.toNatClampNeg = nI n390015 → RM w [] I J Ia390028 Ja390028 → MD w Ja390028 → MU w Ia390028 → MR w Ia390028 Ja390028 sg390024_147 → va_P (dC, dI) vwCl (va_pl L (wF cy K N T Ia390028 Q Ja390028)) H → va_D A (va_pl L (wF cy K N T Ia390028 Q Ja390028)) → va_S A s.heap H locs → lv_has ls 7 [(0, .ref (w 0)), (1, .int xn), (2, .int xp), (3, .ref (w (21 + (5 * xp.toNatClampNeg + n390015)))), (4, .ref (w (21 + (5 * xp.toNatClampNeg + xn.toNatClampNeg))))] → W p l e (headSpec wsX7_follow ({ frames := 4, cells := 0, slots := 0, locals := 99 })).room s m ([.ref (w 0), .int xn, .int xp] : List Value).toArray below meth c H locs 0 0 Qz (F0 m 147 ls []) := by
              intro Ia390028 Ja390028 H locs ls hFS el390028 hR hMD hMU hMR hP hD hS hl
              obtain ⟨hMX, fa390028, fb390028, fc390028, fd390028, fe390028⟩ := hFS
              obtain ⟨la390028, lb390028, lc390028, ld390028, le390028, lf390028⟩ := hMX (5 * xp.toNatClampNeg + n390015) hjn390015 (by omega)
              have hJN196 : ∀ (Ia390029 Ja390029 : Nat → Nat → Int32) (H : Heap) (locs : List Loc) (ls : Array Slot), FS w E (5 * xp.toNatClampNeg + xn.toNatClampNeg) (5 * xp.toNatClampNeg + n390015) Ia390029 → Ja390029 (w 4) xp.toNatClampNeg = nI n390015 → RM w [] I J Ia390029 Ja390029 → MD w Ja390029 → MU w Ia390029 → MR w Ia390029 Ja390029 sg390024_196 → va_P (dC, dI) vwCl (va_pl L (wF cy K N T Ia390029 Q Ja390029)) H → va_D A (va_pl L (wF cy K N T Ia390029 Q Ja390029)) → va_S A s.heap H locs → lv_has ls 7 [(0, .ref (w 0)), (1, .int xn), (2, .int xp), (3, .ref (w (21 + (5 * xp.toNatClampNeg + n390015)))), (4, .ref (w (21 + (5 * xp.toNatClampNeg + xn.toNatClampNeg))))] → W p l e (headSpec wsX7_follow ({ frames := 4, cells := 0, slots := 0, locals := 99 })).room s m ([.ref (w 0), .int xn, .int xp] : List Value).toArray below meth c H locs 0 0 Qz (F0 m 196 ls []) := by
                intro Ia390029 Ja390029 H locs ls hFS el390029 hR hMD hMU hMR hP hD hS hl
                obtain ⟨hMX, fa390029, fb390029, fc390029, fd390029, fe390029⟩ := hFS
                obtain ⟨la390029, lb390029, lc390029, ld390029, le390029, lf390029⟩ := hMX (5 * xp.toNatClampNeg + n390015) hjn390015 (by omega)
                have hJN220 : ∀ (Ia390030 Ja390030 : Nat → Nat → Int32) (H : Heap) (locs : List Loc) (ls : Array Slot), FS w E (5 * xp.toNatClampNeg + xn.toNatClampNeg) (5 * xp.toNatClampNeg + n390015) Ia390030 → Ja390030 (w 4) xp.toNatClampNeg = nI n390015 → RM w [] I J Ia390030 Ja390030 → MD w Ja390030 → MU w Ia390030 → MR w Ia390030 Ja390030 sg390024_220 → va_P (dC, dI) vwCl (va_pl L (wF cy K N T Ia390030 Q Ja390030)) H → va_D A (va_pl L (wF cy K N T Ia390030 Q Ja390030)) → va_S A s.heap H locs → lv_has ls 7 [(0, .ref (w 0)), (1, .int xn), (2, .int xp), (3, .ref (w (21 + (5 * xp.toNatClampNeg + n390015)))), (4, .ref (w (21 + (5 * xp.toNatClampNeg + xn.toNatClampNeg))))] → W p l e (headSpec wsX7_follow ({ frames := 4, cells := 0, slots := 0, locals := 99 })).room s m ([.ref (w 0), .int xn, .int xp] : List Value).toArray below meth c H locs 0 0 Qz (F0 m 220 ls []) := by
                  intro Ia390030 Ja390030 H locs ls hFS el390030 hR hMD hMU hMR hP hD hS hl
                  obtain ⟨hMX, fa390030, fb390030, fc390030, fd390030, fe390030⟩ := hFS
                  obtain ⟨la390030, lb390030, lc390030, ld390030, le390030, lf390030⟩ := hMX (5 * xp.toNatClampNeg + n390015) hjn390015 (by omega)
                  refine lv_aload_n hx hb dX7_follow_220 rfl (lv_at hl 0 rfl) ?_
                  refine lv_iload_n hx hb dX7_follow_221 rfl (lv_at hl 2 rfl) ?_
                  obtain ⟨j390031, hj390031⟩ := wG_7 (cy := cy) (N := N) (T := T) (I := Ia390030) (Q := Q) (J := Ja390030) (hM.at 0 (by decide)) (hM.k 0 (by decide) rfl)
                  have hFc := pfree hD hS hA
                  refine va_callv (va_runV (As := [.int xp]) (rest := []) ⟨hx, hb, hml, hown, hts⟩ (f_X7_rise l dC dI cy w L K N T Q Ia390030 Ja390030 H.size xp sg390024_220 hM hrp390004.1.1 (hMD _ (vp_lt (n := 4) hrp390004.1.1)) hMR) (cwV 1 hts gX7_follow_X7_rise rfl rfl rfl (by decide +kernel) ⟨Nat.le_of_ble_eq_true rfl, Nat.le_of_ble_eq_true rfl⟩) ⟨mw_blind, va_recv hK hP (ci := 7) (q0 := j390031) rfl hj390031, fun U hU hW => ⟨rfl, mw_pre hP hK hD hU hW⟩⟩ rfl rfl hl.1 rfl (lv_room (Nat.le_of_ble_eq_true rfl)) dX7_follow_222 ⟨Nat.le_of_ble_eq_true rfl, Nat.le_of_ble_eq_true rfl⟩) hS (fun q _ h => hFc q h) hFc (fun d9 t H1 locs ht hvm hw hB hz1 hk1 hS => ?_)
                  obtain ⟨I390032, J390032⟩ := d9
                  obtain ⟨hP, hK1, hD1⟩ := hB
                  rw [ht] at hP
                  have hD := hD1.weaken (fun _ _ _ h => hFc _ h)
                  generalize H1 = H at hP hS ⊢
                  have hP : va_P (dC, dI) vwCl (va_pl L (wF cy K N T I390032 Q J390032)) H := hP
                  have hD : va_D A (va_pl L (wF cy K N T I390032 Q J390032)) := hD
                  have hMRn := hw.1
                  have hw := hw.2
                  have hw390034 : RZ w Ia390030 Ja390030 I390032 J390032 xp.toNatClampNeg := hw
                  have hR : RM w [] I J I390032 J390032 := hR.rz hM (vp_lt (n := 4) hrp390004.1.1) hw390034
                  have hMD : MD w J390032 := hMD.rz hw390034
                  have hMU : MU w I390032 := hMU.rz hM (vp_lt (n := 4) hrp390004.1.1) hw390034
                  have hMX : MLx w E (5 * xp.toNatClampNeg + xn.toNatClampNeg) I390032 := hMX.rz hM (vp_lt (n := 4) hrp390004.1.1) hw390034
                  have f1hw390034 : (I390032 (w (21 + (5 * xp.toNatClampNeg + xn.toNatClampNeg))) 1).toInt = (Ia390030 (w (21 + (5 * xp.toNatClampNeg + xn.toNatClampNeg))) 1).toInt := congrArg Int32.toInt (RZ.f hM (vp_lt (n := 4) hrp390004.1.1) hw390034 hjl390023 (by decide))
                  have l1hw390034 : (I390032 (w (21 + (5 * xp.toNatClampNeg + n390015))) 1).toInt = (Ia390030 (w (21 + (5 * xp.toNatClampNeg + n390015))) 1).toInt := congrArg Int32.toInt (RZ.f hM (vp_lt (n := 4) hrp390004.1.1) hw390034 hjn390015 (by decide))
                  have f2hw390034 : (I390032 (w (21 + (5 * xp.toNatClampNeg + xn.toNatClampNeg))) 2).toInt = (Ia390030 (w (21 + (5 * xp.toNatClampNeg + xn.toNatClampNeg))) 2).toInt := congrArg Int32.toInt (RZ.f hM (vp_lt (n := 4) hrp390004.1.1) hw390034 hjl390023 (by decide))
                  have l2hw390034 : (I390032 (w (21 + (5 * xp.toNatClampNeg + n390015))) 2).toInt = (Ia390030 (w (21 + (5 * xp.toNatClampNeg + n390015))) 2).toInt := congrArg Int32.toInt (RZ.f hM (vp_lt (n := 4) hrp390004.1.1) hw390034 hjn390015 (by decide))
                  have el390036 : J390032 (w 4) xp.toNatClampNeg = nI n390015 := by rw [hw390034.1]; exact (by exact el390030)
                  obtain ⟨sg390037, esg390037⟩ : ∃ z, z = oRi sg390024_220 xp.toNatClampNeg := ⟨_, rfl⟩
                  have hMR : MR w I390032 J390032 sg390037 := by rw [esg390037]; exact hMRn
                  refine lv_iconst (v := 0) hx hb dX7_follow_225 (by decide) ?_
                  refine lv_istore (lv' := [(6, .int 0), (0, .ref (w 0)), (1, .int xn), (2, .int xp), (3, .ref (w (21 + (5 * xp.toNatClampNeg + n390015)))), (4, .ref (w (21 + (5 * xp.toNatClampNeg + xn.toNatClampNeg))))]) hx hb dX7_follow_226 hl (by decide) rfl (fun ls hl => ?_)
                  have hLP390038 : ∀ (n : Nat) (y390039 : Int32) (Ia390038 Ja390038 : Nat → Nat → Int32) (H : Heap) (locs : List Loc) (ls : Array Slot), (5 - y390039.toInt).toNat < n → 0 ≤ y390039.toInt → ((MLx w E (5 * xp.toNatClampNeg + xn.toNatClampNeg) Ia390038 ∧ Ja390038 (w 4) xp.toNatClampNeg = nI n390015 ∧ 0 ≤ (Ia390038 (w (21 + (5 * xp.toNatClampNeg + xn.toNatClampNeg))) 1).toInt ∧ (Ia390038 (w (21 + (5 * xp.toNatClampNeg + xn.toNatClampNeg))) 1).toInt ≤ (Ia390038 (w (21 + (5 * xp.toNatClampNeg + xn.toNatClampNeg))) 2).toInt ∧ (Ia390038 (w (21 + (5 * xp.toNatClampNeg + xn.toNatClampNeg))) 2).toInt ≤ (Ia390038 (w (21 + (5 * xp.toNatClampNeg + xn.toNatClampNeg))) 1).toInt + 60 + y390039.toInt ∧ (Ia390038 (w (21 + (5 * xp.toNatClampNeg + xn.toNatClampNeg))) 2).toInt ≤ E ∧ (Ia390038 (w (21 + (5 * xp.toNatClampNeg + n390015))) 1).toInt ≤ (Ia390038 (w (21 + (5 * xp.toNatClampNeg + xn.toNatClampNeg))) 2).toInt ∧ (y390039.toInt = 0 ∨ (Ia390038 (w (21 + (5 * xp.toNatClampNeg + xn.toNatClampNeg))) 2).toInt ≤ (Ia390038 (w (21 + (5 * xp.toNatClampNeg + n390015))) 2).toInt) ∧ y390039.toInt ≤ 5) ∧ (oTn sg390037 (5 * xp.toNatClampNeg + xn.toNatClampNeg) (5 * xp.toNatClampNeg + n390015) y390039.toNatClampNeg).2 = y390039) → RM w [] I J Ia390038 Ja390038 → MD w Ja390038 → MU w Ia390038 → MR w Ia390038 Ja390038 ((oTn sg390037 (5 * xp.toNatClampNeg + xn.toNatClampNeg) (5 * xp.toNatClampNeg + n390015) y390039.toNatClampNeg).1) →  va_P (dC, dI) vwCl (va_pl L (wF cy K N T Ia390038 Q Ja390038)) H → va_D A (va_pl L (wF cy K N T Ia390038 Q Ja390038)) → va_S A s.heap H locs → lv_has ls 7 [(6, .int y390039), (0, .ref (w 0)), (1, .int xn), (2, .int xp), (3, .ref (w (21 + (5 * xp.toNatClampNeg + n390015)))), (4, .ref (w (21 + (5 * xp.toNatClampNeg + xn.toNatClampNeg))))] → W p l e (headSpec wsX7_follow ({ frames := 4, cells := 0, slots := 0, locals := 99 })).room s m ([.ref (w 0), .int xn, .int xp] : List Value).toArray below meth c H locs 0 0 Qz (F0 m 228 ls []) := by
                    intro n
                    induction n with
                    | zero => intro y390039 Ia390038 Ja390038 H locs ls hms; exact absurd hms (Nat.not_lt_zero _)
                    | succ n ih390038 =>
                      intro y390039 Ia390038 Ja390038 H locs ls hms hnn390038 hiv390038 hR hMD hMU hMR hP hD hS hl
                      have hiu390040 := hiv390038.2
                      have hiu390040a := hiv390038.1
                      obtain ⟨hMX, el390041, ma390041, mb390041, mc390041, md390041, me390041, mf390041, mg390041⟩ := hiu390040a
                      obtain ⟨la390041, lb390041, lc390041, ld390041, le390041, lf390041⟩ := hMX (5 * xp.toNatClampNeg + n390015) hjn390015 (by omega)
                      obtain ⟨sg390042, esg390042⟩ : ∃ z, z = (oTn sg390037 (5 * xp.toNatClampNeg + xn.toNatClampNeg) (5 * xp.toNatClampNeg + n390015) y390039.toNatClampNeg).1 := ⟨_, rfl⟩
                      rw [← esg390042] at hMR
                      refine lv_iload hx hb dX7_follow_228 (lv_at hl 0 rfl) ?_
                      refine lv_iconst (v := 5) hx hb dX7_follow_230 (by decide) ?_
                      refine lv_icmp_ge (tgt := 263) hx hb dX7_follow_231 (by decide) (fun c390043 => ?_) (fun c390043 => ?_)
                      · have kc390043 : 5 ≤ y390039.toInt := by have h9 := c390043; rw [xk_le, xk_5] at h9; exact h9
                        have hT5 : oTn sg390037 (5 * xp.toNatClampNeg + xn.toNatClampNeg) (5 * xp.toNatClampNeg + n390015) 5 = oTn sg390037 (5 * xp.toNatClampNeg + xn.toNatClampNeg) (5 * xp.toNatClampNeg + n390015) y390039.toNatClampNeg := by rw [show y390039.toNatClampNeg = 5 by rw [clT]; omega]
                        refine lv_aload hx hb dX7_follow_263 (lv_at hl 5 rfl) ?_
                        refine lv_aload_n hx hb dX7_follow_265 rfl (lv_at hl 4 rfl) ?_
                        obtain ⟨j390044, hj390044⟩ := wG_6 (cy := cy) (N := N) (T := T) (I := Ia390038) (Q := Q) (J := Ja390038) (hM.lg hjn390015).1 (hM.lg hjn390015).2
                        refine va_get (D := (dC, dI)) (ci := 6) (v := .int (Ia390038 (w (21 + (5 * xp.toNatClampNeg + n390015))) 1)) (C := RX6) (T := TX6) (N := 7) hx hb hts hi6 hown hK hP j390044 hj390044 rfl 1 (by decide) (hts (.fieldLink RX7 134 "TallyLogsModel$Log" "start" "I") (by decide +kernel)) (fun _ h9 => h9) rfl dX7_follow_266 ?_
                        refine lv_topi (fun x390045 ex390045 => ?_)
                        have sx390045 : x390045 = sg390042.2.1 (5 * xp.toNatClampNeg + n390015) 1 := ex390045.trans (hMR.g hjn390015 (by decide) (by decide))
                        have tx390045 : x390045.toInt = (Ia390038 (w (21 + (5 * xp.toNatClampNeg + n390015))) 1).toInt := congrArg Int32.toInt ex390045
                        obtain ⟨j390046, hj390046⟩ := wG_6 (cy := cy) (N := N) (T := T) (I := Ia390038) (Q := Q) (J := Ja390038) (hM.lg hjl390023).1 (hM.lg hjl390023).2
                        have hFc := pfree hD hS hA
                        refine va_callv (va_runV (As := [.int x390045]) (rest := []) ⟨hx, hb, hml, hown, hts⟩ (f_X6_from l dC dI cy w L K N T Q Ia390038 Ja390038 H.size (5 * xp.toNatClampNeg + xn.toNatClampNeg) x390045 sg390042 hM hjl390023 (by omega) (by omega) (by omega) hMR) (cwV 1 hts gX7_follow_X6_from rfl rfl rfl (by decide +kernel) ⟨Nat.le_of_ble_eq_true rfl, Nat.le_of_ble_eq_true rfl⟩) ⟨mw_blind, va_recv hK hP (ci := 6) (q0 := j390046) rfl hj390046, fun U hU hW => ⟨rfl, mw_pre hP hK hD hU hW⟩⟩ rfl rfl hl.1 rfl (lv_room (Nat.le_of_ble_eq_true rfl)) dX7_follow_269 ⟨Nat.le_of_ble_eq_true rfl, Nat.le_of_ble_eq_true rfl⟩) hS (fun q _ h => hFc q h) hFc (fun d9 t H1 locs ht hvm hw hB hz1 hk1 hS => ?_)
                        obtain ⟨I390047, J390047⟩ := d9
                        obtain ⟨hP, hK1, hD1⟩ := hB
                        rw [ht] at hP
                        have hD := hD1.weaken (fun _ _ _ h => hFc _ h)
                        generalize H1 = H at hP hS ⊢
                        have hP : va_P (dC, dI) vwCl (va_pl L (wF cy K N T I390047 Q J390047)) H := hP
                        have hD : va_D A (va_pl L (wF cy K N T I390047 Q J390047)) := hD
                        have hMRn := hw.1
                        have hw := hw.2
                        have hw390049 : LW w Ia390038 Ja390038 I390047 J390047 (5 * xp.toNatClampNeg + xn.toNatClampNeg) _ _ := hw
                        have hR : RM w [] I J I390047 J390047 := hR.lw hM hjl390023 hw390049
                        have hMD : MD w J390047 := hMD.lw hM hjl390023 hw390049
                        have hMU : MU w I390047 := hMU.lw hM hjl390023 hw390049
                        have hMX : MLx w E (5 * xp.toNatClampNeg + xn.toNatClampNeg) I390047 := hMX.lw hM hjl390023 hw390049
                        have q1hw390049 : (I390047 (w (21 + (5 * xp.toNatClampNeg + xn.toNatClampNeg))) 1).toInt = _ := hw390049.2.2.1
                        have q2hw390049 : (I390047 (w (21 + (5 * xp.toNatClampNeg + xn.toNatClampNeg))) 2).toInt = _ := hw390049.2.2.2
                        have q4hw390049 : (I390047 (w (21 + (5 * xp.toNatClampNeg + xn.toNatClampNeg))) 4).toInt = _ := congrArg Int32.toInt hw390049.f4
                        have l1hw390049 : (I390047 (w (21 + (5 * xp.toNatClampNeg + n390015))) 1).toInt = _ := congrArg Int32.toInt (hw390049.other hM hjl390023 hjn390015 (f := 1) (by omega))
                        have l2hw390049 : (I390047 (w (21 + (5 * xp.toNatClampNeg + n390015))) 2).toInt = _ := congrArg Int32.toInt (hw390049.other hM hjl390023 hjn390015 (f := 2) (by omega))
                        have l3hw390049 : (I390047 (w (21 + (5 * xp.toNatClampNeg + n390015))) 3).toInt = _ := congrArg Int32.toInt (hw390049.other hM hjl390023 hjn390015 (f := 3) (by omega))
                        have el390050 : J390047 (w 4) xp.toNatClampNeg = nI n390015 := by rw [hw390049.2.1 _ (hM.ne (i := 4) (by omega) (by omega) (by omega))]; exact (by exact el390041)
                        obtain ⟨sg390051, esg390051⟩ : ∃ z, z = oFr sg390042 (5 * xp.toNatClampNeg + xn.toNatClampNeg) x390045 := ⟨_, rfl⟩
                        have hMR : MR w I390047 J390047 sg390051 := by rw [esg390051]; exact hMRn
                        refine lv_aload hx hb dX7_follow_272 (lv_at hl 5 rfl) ?_
                        refine lv_aload_n hx hb dX7_follow_274 rfl (lv_at hl 4 rfl) ?_
                        obtain ⟨j390052, hj390052⟩ := wG_6 (cy := cy) (N := N) (T := T) (I := I390047) (Q := Q) (J := J390047) (hM.lg hjn390015).1 (hM.lg hjn390015).2
                        refine va_get (D := (dC, dI)) (ci := 6) (v := .int (I390047 (w (21 + (5 * xp.toNatClampNeg + n390015))) 3)) (C := RX6) (T := TX6) (N := 7) hx hb hts hi6 hown hK hP j390052 hj390052 rfl 3 (by decide) (hts (.fieldLink RX7 109 "TallyLogsModel$Log" "high" "I") (by decide +kernel)) (fun _ h9 => h9) rfl dX7_follow_275 ?_
                        refine lv_topi (fun x390053 ex390053 => ?_)
                        have sx390053 : x390053 = sg390051.2.1 (5 * xp.toNatClampNeg + n390015) 3 := ex390053.trans (hMR.g hjn390015 (by decide) (by decide))
                        have tx390053 : x390053.toInt = (I390047 (w (21 + (5 * xp.toNatClampNeg + n390015))) 3).toInt := congrArg Int32.toInt ex390053
                        refine lv_aload hx hb dX7_follow_278 (lv_at hl 5 rfl) ?_
                        obtain ⟨j390054, hj390054⟩ := wG_6 (cy := cy) (N := N) (T := T) (I := I390047) (Q := Q) (J := J390047) (hM.lg hjl390023).1 (hM.lg hjl390023).2
                        refine va_get (D := (dC, dI)) (ci := 6) (v := .int (I390047 (w (21 + (5 * xp.toNatClampNeg + xn.toNatClampNeg))) 2)) (C := RX6) (T := TX6) (N := 7) hx hb hts hi6 hown hK hP j390054 hj390054 rfl 2 (by decide) (hts (.fieldLink RX7 89 "TallyLogsModel$Log" "end" "I") (by decide +kernel)) (fun _ h9 => h9) rfl dX7_follow_280 ?_
                        refine lv_topi (fun x390055 ex390055 => ?_)
                        have sx390055 : x390055 = sg390051.2.1 (5 * xp.toNatClampNeg + xn.toNatClampNeg) 2 := ex390055.trans (hMR.g hjl390023 (by decide) (by decide))
                        have tx390055 : x390055.toInt = (I390047 (w (21 + (5 * xp.toNatClampNeg + xn.toNatClampNeg))) 2).toInt := congrArg Int32.toInt ex390055
                        refine va_mmin hx hb (by rw [hml]; exact hl.1.symm) hown (hts (.methodLink RX7 105 Lib.Math.min.name) (by decide +kernel)) (hts (.static Lib.Math.min.name) (by decide +kernel)) (hts (.initialized "java/lang/Math") (by decide +kernel)) (hts _ (List.mem_of_getElem? (i := 12) rfl)) (Nat.le_of_ble_eq_true rfl) (Nat.le_of_ble_eq_true rfl) (Nat.le_of_ble_eq_true rfl) (Nat.le_of_ble_eq_true rfl) dX7_follow_283 ?_
                        refine lv_topi (fun z390056 ez390056 => ?_)
                        have tz390056 : z390056.toInt = min x390053.toInt x390055.toInt := (xmin_t ez390056)
                        obtain ⟨j390057, hj390057⟩ := wG_6 (cy := cy) (N := N) (T := T) (I := I390047) (Q := Q) (J := J390047) (hM.lg hjl390023).1 (hM.lg hjl390023).2
                        have hDo := hD
                        refine va_put (D := (dC, dI)) (ci := 6) (v := .int z390056) (ty := .int) (C := RX6) (T := TX6) (N := 7) hx hb hts hi6 tyX6 tyX6_ok nmX6 hown hK hP hD hS j390057 hj390057 rfl 3 (by decide) (hts (.fieldLink RX7 109 "TallyLogsModel$Log" "high" "I") (by decide +kernel)) (fun _ h9 => h9) rfl (by decide +kernel) rfl rfl (Nat.le_of_ble_eq_true rfl) dX7_follow_286 (fun H locs hP hD hS => ?_)
                        have hP := Eq.mp (congrArg (fun w => va_P (dC, dI) vwCl w H) (wP_6_3 (x := z390056) hDo (hM.lg hjl390023).1 (hM.lg hjl390023).2 hj390057)) hP
                        obtain ⟨I390058, eI390058⟩ : ∃ z, z = p2 I390047 (w (21 + (5 * xp.toNatClampNeg + xn.toNatClampNeg))) 3 z390056 := ⟨_, rfl⟩
                        rw [← eI390058] at hP
                        have hD : va_D A (va_pl L (wF cy K N T I390058 Q J390047)) := pD hDo
                        obtain ⟨sg390059, esg390059⟩ : ∃ z, z = sG sg390051 (5 * xp.toNatClampNeg + xn.toNatClampNeg) 3 z390056 := ⟨_, rfl⟩
                        have hMR : MR w I390058 J390047 sg390059 := by rw [eI390058, esg390059]; exact hMR.wg hM hjl390023 (by decide) (by decide)
                        have hR : RM w [] I J I390058 J390047 := by rw [eI390058]; exact hR.pl hM hjl390023
                        have hMU : MU w I390058 := by rw [eI390058]; exact hMU.pl hM hjl390023
                        have hMX : MLx w E (5 * xp.toNatClampNeg + xn.toNatClampNeg) I390058 := by rw [eI390058]; exact hMX.put hM hjl390023
                        refine lv_aload hx hb dX7_follow_289 (lv_at hl 5 rfl) ?_
                        refine lv_aload hx hb dX7_follow_291 (lv_at hl 5 rfl) ?_
                        obtain ⟨j390060, hj390060⟩ := wG_6 (cy := cy) (N := N) (T := T) (I := I390058) (Q := Q) (J := J390047) (hM.lg hjl390023).1 (hM.lg hjl390023).2
                        refine va_get (D := (dC, dI)) (ci := 6) (v := .int (I390058 (w (21 + (5 * xp.toNatClampNeg + xn.toNatClampNeg))) 1)) (C := RX6) (T := TX6) (N := 7) hx hb hts hi6 hown hK hP j390060 hj390060 rfl 1 (by decide) (hts (.fieldLink RX7 134 "TallyLogsModel$Log" "start" "I") (by decide +kernel)) (fun _ h9 => h9) rfl dX7_follow_293 ?_
                        refine lv_topi (fun x390061 ex390061 => ?_)
                        have sx390061 : x390061 = sg390059.2.1 (5 * xp.toNatClampNeg + xn.toNatClampNeg) 1 := ex390061.trans (hMR.g hjl390023 (by decide) (by decide))
                        have ex390061 : x390061 = I390047 (w (21 + (5 * xp.toNatClampNeg + xn.toNatClampNeg))) 1 := by rw [ex390061, eI390058, p2_ne _ _ (fun q => absurd q.2 (by decide))]
                        have tx390061 : x390061.toInt = (I390047 (w (21 + (5 * xp.toNatClampNeg + xn.toNatClampNeg))) 1).toInt := congrArg Int32.toInt ex390061
                        refine lv_aload hx hb dX7_follow_296 (lv_at hl 5 rfl) ?_
                        obtain ⟨j390062, hj390062⟩ := wG_6 (cy := cy) (N := N) (T := T) (I := I390058) (Q := Q) (J := J390047) (hM.lg hjl390023).1 (hM.lg hjl390023).2
                        refine va_get (D := (dC, dI)) (ci := 6) (v := .int (I390058 (w (21 + (5 * xp.toNatClampNeg + xn.toNatClampNeg))) 4)) (C := RX6) (T := TX6) (N := 7) hx hb hts hi6 hown hK hP j390062 hj390062 rfl 4 (by decide) (hts (.fieldLink RX7 158 "TallyLogsModel$Log" "flushed" "I") (by decide +kernel)) (fun _ h9 => h9) rfl dX7_follow_298 ?_
                        refine lv_topi (fun x390063 ex390063 => ?_)
                        have sx390063 : x390063 = sg390059.2.1 (5 * xp.toNatClampNeg + xn.toNatClampNeg) 4 := ex390063.trans (hMR.g hjl390023 (by decide) (by decide))
                        have ex390063 : x390063 = I390047 (w (21 + (5 * xp.toNatClampNeg + xn.toNatClampNeg))) 4 := by rw [ex390063, eI390058, p2_ne _ _ (fun q => absurd q.2 (by decide))]
                        have tx390063 : x390063.toInt = (I390047 (w (21 + (5 * xp.toNatClampNeg + xn.toNatClampNeg))) 4).toInt := congrArg Int32.toInt ex390063
                        refine lv_aload hx hb dX7_follow_301 (lv_at hl 5 rfl) ?_
                        obtain ⟨j390064, hj390064⟩ := wG_6 (cy := cy) (N := N) (T := T) (I := I390058) (Q := Q) (J := J390047) (hM.lg hjl390023).1 (hM.lg hjl390023).2
                        refine va_get (D := (dC, dI)) (ci := 6) (v := .int (I390058 (w (21 + (5 * xp.toNatClampNeg + xn.toNatClampNeg))) 2)) (C := RX6) (T := TX6) (N := 7) hx hb hts hi6 hown hK hP j390064 hj390064 rfl 2 (by decide) (hts (.fieldLink RX7 89 "TallyLogsModel$Log" "end" "I") (by decide +kernel)) (fun _ h9 => h9) rfl dX7_follow_303 ?_
                        refine lv_topi (fun x390065 ex390065 => ?_)
                        have sx390065 : x390065 = sg390059.2.1 (5 * xp.toNatClampNeg + xn.toNatClampNeg) 2 := ex390065.trans (hMR.g hjl390023 (by decide) (by decide))
                        have ex390065 : x390065 = I390047 (w (21 + (5 * xp.toNatClampNeg + xn.toNatClampNeg))) 2 := by rw [ex390065, eI390058, p2_ne _ _ (fun q => absurd q.2 (by decide))]
                        have tx390065 : x390065.toInt = (I390047 (w (21 + (5 * xp.toNatClampNeg + xn.toNatClampNeg))) 2).toInt := congrArg Int32.toInt ex390065
                        refine va_mmin hx hb (by rw [hml]; exact hl.1.symm) hown (hts (.methodLink RX7 105 Lib.Math.min.name) (by decide +kernel)) (hts (.static Lib.Math.min.name) (by decide +kernel)) (hts (.initialized "java/lang/Math") (by decide +kernel)) (hts _ (List.mem_of_getElem? (i := 12) rfl)) (Nat.le_of_ble_eq_true rfl) (Nat.le_of_ble_eq_true rfl) (Nat.le_of_ble_eq_true rfl) (Nat.le_of_ble_eq_true rfl) dX7_follow_306 ?_
                        refine lv_topi (fun z390066 ez390066 => ?_)
                        have tz390066 : z390066.toInt = min x390063.toInt x390065.toInt := (xmin_t ez390066)
                        refine va_mmax hx hb (by rw [hml]; exact hl.1.symm) hown (hts (.methodLink RX7 155 Lib.Math.max.name) (by decide +kernel)) (hts (.static Lib.Math.max.name) (by decide +kernel)) (hts (.initialized "java/lang/Math") (by decide +kernel)) (hts _ (List.mem_of_getElem? (i := 8) rfl)) (Nat.le_of_ble_eq_true rfl) (Nat.le_of_ble_eq_true rfl) (Nat.le_of_ble_eq_true rfl) (Nat.le_of_ble_eq_true rfl) dX7_follow_309 ?_
                        refine lv_topi (fun z390067 ez390067 => ?_)
                        have tz390067 : z390067.toInt = max x390061.toInt z390066.toInt := (xmax_t ez390067)
                        obtain ⟨j390068, hj390068⟩ := wG_6 (cy := cy) (N := N) (T := T) (I := I390058) (Q := Q) (J := J390047) (hM.lg hjl390023).1 (hM.lg hjl390023).2
                        have hDo := hD
                        refine va_put (D := (dC, dI)) (ci := 6) (v := .int z390067) (ty := .int) (C := RX6) (T := TX6) (N := 7) hx hb hts hi6 tyX6 tyX6_ok nmX6 hown hK hP hD hS j390068 hj390068 rfl 4 (by decide) (hts (.fieldLink RX7 158 "TallyLogsModel$Log" "flushed" "I") (by decide +kernel)) (fun _ h9 => h9) rfl (by decide +kernel) rfl rfl (Nat.le_of_ble_eq_true rfl) dX7_follow_312 (fun H locs hP hD hS => ?_)
                        have hP := Eq.mp (congrArg (fun w => va_P (dC, dI) vwCl w H) (wP_6_4 (x := z390067) hDo (hM.lg hjl390023).1 (hM.lg hjl390023).2 hj390068)) hP
                        obtain ⟨I390069, eI390069⟩ : ∃ z, z = p2 I390058 (w (21 + (5 * xp.toNatClampNeg + xn.toNatClampNeg))) 4 z390067 := ⟨_, rfl⟩
                        rw [← eI390069] at hP
                        have hD : va_D A (va_pl L (wF cy K N T I390069 Q J390047)) := pD hDo
                        obtain ⟨sg390070, esg390070⟩ : ∃ z, z = sG sg390059 (5 * xp.toNatClampNeg + xn.toNatClampNeg) 4 z390067 := ⟨_, rfl⟩
                        have hMR : MR w I390069 J390047 sg390070 := by rw [eI390069, esg390070]; exact hMR.wg hM hjl390023 (by decide) (by decide)
                        have hR : RM w [] I J I390069 J390047 := by rw [eI390069]; exact hR.pl hM hjl390023
                        have hMU : MU w I390069 := by rw [eI390069]; exact hMU.pl hM hjl390023
                        have hMX : MLx w E (5 * xp.toNatClampNeg + xn.toNatClampNeg) I390069 := by rw [eI390069]; exact hMX.put hM hjl390023
                        have z390071_1 : (I390069 (w (21 + (5 * xp.toNatClampNeg + xn.toNatClampNeg))) 1).toInt = (I390047 (w (21 + (5 * xp.toNatClampNeg + xn.toNatClampNeg))) 1).toInt := by rw [eI390069, p2_ne _ _ (fun q => absurd q.2 (by decide)), eI390058, p2_ne _ _ (fun q => absurd q.2 (by decide))]
                        have z390071_2 : (I390069 (w (21 + (5 * xp.toNatClampNeg + xn.toNatClampNeg))) 2).toInt = (I390047 (w (21 + (5 * xp.toNatClampNeg + xn.toNatClampNeg))) 2).toInt := by rw [eI390069, p2_ne _ _ (fun q => absurd q.2 (by decide)), eI390058, p2_ne _ _ (fun q => absurd q.2 (by decide))]
                        have z390071_3 : (I390069 (w (21 + (5 * xp.toNatClampNeg + xn.toNatClampNeg))) 3).toInt = z390056.toInt := by rw [eI390069, p2_ne _ _ (fun q => absurd q.2 (by decide)), eI390058, p2_at]
                        have z390071_4 : (I390069 (w (21 + (5 * xp.toNatClampNeg + xn.toNatClampNeg))) 4).toInt = z390067.toInt := by rw [eI390069, p2_at]
                        have hMLz : ML w E I390069 := hMX.to ⟨by omega, by omega, by omega, by omega, by omega, by omega⟩
                        refine lv_iload hx hb dX7_follow_315 (lv_at hl 0 rfl) ?_
                        rw [hQz]
                        exact W.iret (v := y390039) hx hb hr (fun t ht hW => ⟨⟨y390039, (I390069, J390047), rfl, ⟨⟨hMLz.mono (by omega), hMD, hMU⟩, by have hfa : oFa σ (5 * xp.toNatClampNeg + xn.toNatClampNeg) (5 * xp.toNatClampNeg + n390015) xp.toNatClampNeg xn = sg390037 := (by rw [oFa, ← esg390024_73, ← esg390024_147, ← esg390024_196, ← esg390024_220, esg390037]); have h5 : oF5 sg390042 (5 * xp.toNatClampNeg + xn.toNatClampNeg) (5 * xp.toNatClampNeg + n390015) = sg390070 := (by rw [esg390070, ez390067, ez390066, sx390061, sx390063, sx390065, esg390059, sG_o (f := 3) (g := 1) (by decide), sG_o (f := 3) (g := 4) (by decide), sG_o (f := 3) (g := 2) (by decide), ez390056, sx390053, sx390055, esg390051, sx390045, oF5]; simp only [imn, imx] <;> rfl); have e9 : qFo σ xn xp = (sg390070, y390039) := (by rw [qFo, if_neg (by have k9 := c390003; simp only [hir390001] at k9; exact k9), if_neg (by have k9 := c390007; simp only [hir390005] at k9; exact k9), if_neg (by have k9 := c390012; simp only [sx390011] at k9; exact k9), oqn390015]; show (oF5 (oTn (oFa σ (5 * xp.toNatClampNeg + xn.toNatClampNeg) (5 * xp.toNatClampNeg + n390015) xp.toNatClampNeg xn) (5 * xp.toNatClampNeg + xn.toNatClampNeg) (5 * xp.toNatClampNeg + n390015) 5).1 (5 * xp.toNatClampNeg + xn.toNatClampNeg) (5 * xp.toNatClampNeg + n390015), (oTn (oFa σ (5 * xp.toNatClampNeg + xn.toNatClampNeg) (5 * xp.toNatClampNeg + n390015) xp.toNatClampNeg xn) (5 * xp.toNatClampNeg + xn.toNatClampNeg) (5 * xp.toNatClampNeg + n390015) 5).2) = _; rw [hfa, hT5, ← esg390042, h5, hiu390040]); show MR w I390069 J390047 _; rw [e9]; exact hMR, by have hfa : oFa σ (5 * xp.toNatClampNeg + xn.toNatClampNeg) (5 * xp.toNatClampNeg + n390015) xp.toNatClampNeg xn = sg390037 := (by rw [oFa, ← esg390024_73, ← esg390024_147, ← esg390024_196, ← esg390024_220, esg390037]); have h5 : oF5 sg390042 (5 * xp.toNatClampNeg + xn.toNatClampNeg) (5 * xp.toNatClampNeg + n390015) = sg390070 := (by rw [esg390070, ez390067, ez390066, sx390061, sx390063, sx390065, esg390059, sG_o (f := 3) (g := 1) (by decide), sG_o (f := 3) (g := 4) (by decide), sG_o (f := 3) (g := 2) (by decide), ez390056, sx390053, sx390055, esg390051, sx390045, oF5]; simp only [imn, imx] <;> rfl); have e9 : qFo σ xn xp = (sg390070, y390039) := (by rw [qFo, if_neg (by have k9 := c390003; simp only [hir390001] at k9; exact k9), if_neg (by have k9 := c390007; simp only [hir390005] at k9; exact k9), if_neg (by have k9 := c390012; simp only [sx390011] at k9; exact k9), oqn390015]; show (oF5 (oTn (oFa σ (5 * xp.toNatClampNeg + xn.toNatClampNeg) (5 * xp.toNatClampNeg + n390015) xp.toNatClampNeg xn) (5 * xp.toNatClampNeg + xn.toNatClampNeg) (5 * xp.toNatClampNeg + n390015) 5).1 (5 * xp.toNatClampNeg + xn.toNatClampNeg) (5 * xp.toNatClampNeg + n390015), (oTn (oFa σ (5 * xp.toNatClampNeg + xn.toNatClampNeg) (5 * xp.toNatClampNeg + n390015) xp.toNatClampNeg xn) (5 * xp.toNatClampNeg + xn.toNatClampNeg) (5 * xp.toNatClampNeg + n390015) 5).2) = _; rw [hfa, hT5, ← esg390042, h5, hiu390040]); show _ = _; rw [e9]⟩, by rw [ht]; exact hP, va_K.moved hW.alike hK, hD⟩, hS.F ht⟩) hS.2.2 dX7_follow_317
                      · have kc390043 : ¬ (5 ≤ y390039.toInt) := by have h9 := c390043; rw [xk_le, xk_5] at h9; exact h9
                        refine lv_aload hx hb dX7_follow_234 (lv_at hl 5 rfl) ?_
                        obtain ⟨j390072, hj390072⟩ := wG_6 (cy := cy) (N := N) (T := T) (I := Ia390038) (Q := Q) (J := Ja390038) (hM.lg hjl390023).1 (hM.lg hjl390023).2
                        refine va_get (D := (dC, dI)) (ci := 6) (v := .int (Ia390038 (w (21 + (5 * xp.toNatClampNeg + xn.toNatClampNeg))) 2)) (C := RX6) (T := TX6) (N := 7) hx hb hts hi6 hown hK hP j390072 hj390072 rfl 2 (by decide) (hts (.fieldLink RX7 89 "TallyLogsModel$Log" "end" "I") (by decide +kernel)) (fun _ h9 => h9) rfl dX7_follow_236 ?_
                        refine lv_topi (fun x390073 ex390073 => ?_)
                        have sx390073 : x390073 = sg390042.2.1 (5 * xp.toNatClampNeg + xn.toNatClampNeg) 2 := ex390073.trans (hMR.g hjl390023 (by decide) (by decide))
                        have tx390073 : x390073.toInt = (Ia390038 (w (21 + (5 * xp.toNatClampNeg + xn.toNatClampNeg))) 2).toInt := congrArg Int32.toInt ex390073
                        refine lv_aload_n hx hb dX7_follow_239 rfl (lv_at hl 4 rfl) ?_
                        obtain ⟨j390074, hj390074⟩ := wG_6 (cy := cy) (N := N) (T := T) (I := Ia390038) (Q := Q) (J := Ja390038) (hM.lg hjn390015).1 (hM.lg hjn390015).2
                        refine va_get (D := (dC, dI)) (ci := 6) (v := .int (Ia390038 (w (21 + (5 * xp.toNatClampNeg + n390015))) 2)) (C := RX6) (T := TX6) (N := 7) hx hb hts hi6 hown hK hP j390074 hj390074 rfl 2 (by decide) (hts (.fieldLink RX7 89 "TallyLogsModel$Log" "end" "I") (by decide +kernel)) (fun _ h9 => h9) rfl dX7_follow_240 ?_
                        refine lv_topi (fun x390075 ex390075 => ?_)
                        have sx390075 : x390075 = sg390042.2.1 (5 * xp.toNatClampNeg + n390015) 2 := ex390075.trans (hMR.g hjn390015 (by decide) (by decide))
                        have tx390075 : x390075.toInt = (Ia390038 (w (21 + (5 * xp.toNatClampNeg + n390015))) 2).toInt := congrArg Int32.toInt ex390075
                        refine lv_icmp_ge (tgt := 263) hx hb dX7_follow_243 (by decide) (fun c390076 => ?_) (fun c390076 => ?_)
                        · have kc390076 : x390075.toInt ≤ x390073.toInt := by have h9 := c390076; rw [xk_le] at h9; exact h9
                          have hT5 : oTn sg390037 (5 * xp.toNatClampNeg + xn.toNatClampNeg) (5 * xp.toNatClampNeg + n390015) 5 = oTn sg390037 (5 * xp.toNatClampNeg + xn.toNatClampNeg) (5 * xp.toNatClampNeg + n390015) y390039.toNatClampNeg := oTn_stop (by rw [← esg390042]; exact (by have k9 := c390076; simp only [sx390073, sx390075] at k9; exact k9)) (by rw [clT]; omega)
                          refine lv_aload hx hb dX7_follow_263 (lv_at hl 5 rfl) ?_
                          refine lv_aload_n hx hb dX7_follow_265 rfl (lv_at hl 4 rfl) ?_
                          obtain ⟨j390077, hj390077⟩ := wG_6 (cy := cy) (N := N) (T := T) (I := Ia390038) (Q := Q) (J := Ja390038) (hM.lg hjn390015).1 (hM.lg hjn390015).2
                          refine va_get (D := (dC, dI)) (ci := 6) (v := .int (Ia390038 (w (21 + (5 * xp.toNatClampNeg + n390015))) 1)) (C := RX6) (T := TX6) (N := 7) hx hb hts hi6 hown hK hP j390077 hj390077 rfl 1 (by decide) (hts (.fieldLink RX7 134 "TallyLogsModel$Log" "start" "I") (by decide +kernel)) (fun _ h9 => h9) rfl dX7_follow_266 ?_
                          refine lv_topi (fun x390078 ex390078 => ?_)
                          have sx390078 : x390078 = sg390042.2.1 (5 * xp.toNatClampNeg + n390015) 1 := ex390078.trans (hMR.g hjn390015 (by decide) (by decide))
                          have tx390078 : x390078.toInt = (Ia390038 (w (21 + (5 * xp.toNatClampNeg + n390015))) 1).toInt := congrArg Int32.toInt ex390078
                          obtain ⟨j390079, hj390079⟩ := wG_6 (cy := cy) (N := N) (T := T) (I := Ia390038) (Q := Q) (J := Ja390038) (hM.lg hjl390023).1 (hM.lg hjl390023).2
                          have hFc := pfree hD hS hA
                          refine va_callv (va_runV (As := [.int x390078]) (rest := []) ⟨hx, hb, hml, hown, hts⟩ (f_X6_from l dC dI cy w L K N T Q Ia390038 Ja390038 H.size (5 * xp.toNatClampNeg + xn.toNatClampNeg) x390078 sg390042 hM hjl390023 (by omega) (by omega) (by omega) hMR) (cwV 1 hts gX7_follow_X6_from rfl rfl rfl (by decide +kernel) ⟨Nat.le_of_ble_eq_true rfl, Nat.le_of_ble_eq_true rfl⟩) ⟨mw_blind, va_recv hK hP (ci := 6) (q0 := j390079) rfl hj390079, fun U hU hW => ⟨rfl, mw_pre hP hK hD hU hW⟩⟩ rfl rfl hl.1 rfl (lv_room (Nat.le_of_ble_eq_true rfl)) dX7_follow_269 ⟨Nat.le_of_ble_eq_true rfl, Nat.le_of_ble_eq_true rfl⟩) hS (fun q _ h => hFc q h) hFc (fun d9 t H1 locs ht hvm hw hB hz1 hk1 hS => ?_)
                          obtain ⟨I390080, J390080⟩ := d9
                          obtain ⟨hP, hK1, hD1⟩ := hB
                          rw [ht] at hP
                          have hD := hD1.weaken (fun _ _ _ h => hFc _ h)
                          generalize H1 = H at hP hS ⊢
                          have hP : va_P (dC, dI) vwCl (va_pl L (wF cy K N T I390080 Q J390080)) H := hP
                          have hD : va_D A (va_pl L (wF cy K N T I390080 Q J390080)) := hD
                          have hMRn := hw.1
                          have hw := hw.2
                          have hw390082 : LW w Ia390038 Ja390038 I390080 J390080 (5 * xp.toNatClampNeg + xn.toNatClampNeg) _ _ := hw
                          have hR : RM w [] I J I390080 J390080 := hR.lw hM hjl390023 hw390082
                          have hMD : MD w J390080 := hMD.lw hM hjl390023 hw390082
                          have hMU : MU w I390080 := hMU.lw hM hjl390023 hw390082
                          have hMX : MLx w E (5 * xp.toNatClampNeg + xn.toNatClampNeg) I390080 := hMX.lw hM hjl390023 hw390082
                          have q1hw390082 : (I390080 (w (21 + (5 * xp.toNatClampNeg + xn.toNatClampNeg))) 1).toInt = _ := hw390082.2.2.1
                          have q2hw390082 : (I390080 (w (21 + (5 * xp.toNatClampNeg + xn.toNatClampNeg))) 2).toInt = _ := hw390082.2.2.2
                          have q4hw390082 : (I390080 (w (21 + (5 * xp.toNatClampNeg + xn.toNatClampNeg))) 4).toInt = _ := congrArg Int32.toInt hw390082.f4
                          have l1hw390082 : (I390080 (w (21 + (5 * xp.toNatClampNeg + n390015))) 1).toInt = _ := congrArg Int32.toInt (hw390082.other hM hjl390023 hjn390015 (f := 1) (by omega))
                          have l2hw390082 : (I390080 (w (21 + (5 * xp.toNatClampNeg + n390015))) 2).toInt = _ := congrArg Int32.toInt (hw390082.other hM hjl390023 hjn390015 (f := 2) (by omega))
                          have l3hw390082 : (I390080 (w (21 + (5 * xp.toNatClampNeg + n390015))) 3).toInt = _ := congrArg Int32.toInt (hw390082.other hM hjl390023 hjn390015 (f := 3) (by omega))
                          have el390083 : J390080 (w 4) xp.toNatClampNeg = nI n390015 := by rw [hw390082.2.1 _ (hM.ne (i := 4) (by omega) (by omega) (by omega))]; exact (by exact el390041)
                          obtain ⟨sg390084, esg390084⟩ : ∃ z, z = oFr sg390042 (5 * xp.toNatClampNeg + xn.toNatClampNeg) x390078 := ⟨_, rfl⟩
                          have hMR : MR w I390080 J390080 sg390084 := by rw [esg390084]; exact hMRn
                          refine lv_aload hx hb dX7_follow_272 (lv_at hl 5 rfl) ?_
                          refine lv_aload_n hx hb dX7_follow_274 rfl (lv_at hl 4 rfl) ?_
                          obtain ⟨j390085, hj390085⟩ := wG_6 (cy := cy) (N := N) (T := T) (I := I390080) (Q := Q) (J := J390080) (hM.lg hjn390015).1 (hM.lg hjn390015).2
                          refine va_get (D := (dC, dI)) (ci := 6) (v := .int (I390080 (w (21 + (5 * xp.toNatClampNeg + n390015))) 3)) (C := RX6) (T := TX6) (N := 7) hx hb hts hi6 hown hK hP j390085 hj390085 rfl 3 (by decide) (hts (.fieldLink RX7 109 "TallyLogsModel$Log" "high" "I") (by decide +kernel)) (fun _ h9 => h9) rfl dX7_follow_275 ?_
                          refine lv_topi (fun x390086 ex390086 => ?_)
                          have sx390086 : x390086 = sg390084.2.1 (5 * xp.toNatClampNeg + n390015) 3 := ex390086.trans (hMR.g hjn390015 (by decide) (by decide))
                          have tx390086 : x390086.toInt = (I390080 (w (21 + (5 * xp.toNatClampNeg + n390015))) 3).toInt := congrArg Int32.toInt ex390086
                          refine lv_aload hx hb dX7_follow_278 (lv_at hl 5 rfl) ?_
                          obtain ⟨j390087, hj390087⟩ := wG_6 (cy := cy) (N := N) (T := T) (I := I390080) (Q := Q) (J := J390080) (hM.lg hjl390023).1 (hM.lg hjl390023).2
                          refine va_get (D := (dC, dI)) (ci := 6) (v := .int (I390080 (w (21 + (5 * xp.toNatClampNeg + xn.toNatClampNeg))) 2)) (C := RX6) (T := TX6) (N := 7) hx hb hts hi6 hown hK hP j390087 hj390087 rfl 2 (by decide) (hts (.fieldLink RX7 89 "TallyLogsModel$Log" "end" "I") (by decide +kernel)) (fun _ h9 => h9) rfl dX7_follow_280 ?_
                          refine lv_topi (fun x390088 ex390088 => ?_)
                          have sx390088 : x390088 = sg390084.2.1 (5 * xp.toNatClampNeg + xn.toNatClampNeg) 2 := ex390088.trans (hMR.g hjl390023 (by decide) (by decide))
                          have tx390088 : x390088.toInt = (I390080 (w (21 + (5 * xp.toNatClampNeg + xn.toNatClampNeg))) 2).toInt := congrArg Int32.toInt ex390088
                          refine va_mmin hx hb (by rw [hml]; exact hl.1.symm) hown (hts (.methodLink RX7 105 Lib.Math.min.name) (by decide +kernel)) (hts (.static Lib.Math.min.name) (by decide +kernel)) (hts (.initialized "java/lang/Math") (by decide +kernel)) (hts _ (List.mem_of_getElem? (i := 12) rfl)) (Nat.le_of_ble_eq_true rfl) (Nat.le_of_ble_eq_true rfl) (Nat.le_of_ble_eq_true rfl) (Nat.le_of_ble_eq_true rfl) dX7_follow_283 ?_
                          refine lv_topi (fun z390089 ez390089 => ?_)
                          have tz390089 : z390089.toInt = min x390086.toInt x390088.toInt := (xmin_t ez390089)
                          obtain ⟨j390090, hj390090⟩ := wG_6 (cy := cy) (N := N) (T := T) (I := I390080) (Q := Q) (J := J390080) (hM.lg hjl390023).1 (hM.lg hjl390023).2
                          have hDo := hD
                          refine va_put (D := (dC, dI)) (ci := 6) (v := .int z390089) (ty := .int) (C := RX6) (T := TX6) (N := 7) hx hb hts hi6 tyX6 tyX6_ok nmX6 hown hK hP hD hS j390090 hj390090 rfl 3 (by decide) (hts (.fieldLink RX7 109 "TallyLogsModel$Log" "high" "I") (by decide +kernel)) (fun _ h9 => h9) rfl (by decide +kernel) rfl rfl (Nat.le_of_ble_eq_true rfl) dX7_follow_286 (fun H locs hP hD hS => ?_)
                          have hP := Eq.mp (congrArg (fun w => va_P (dC, dI) vwCl w H) (wP_6_3 (x := z390089) hDo (hM.lg hjl390023).1 (hM.lg hjl390023).2 hj390090)) hP
                          obtain ⟨I390091, eI390091⟩ : ∃ z, z = p2 I390080 (w (21 + (5 * xp.toNatClampNeg + xn.toNatClampNeg))) 3 z390089 := ⟨_, rfl⟩
                          rw [← eI390091] at hP
                          have hD : va_D A (va_pl L (wF cy K N T I390091 Q J390080)) := pD hDo
                          obtain ⟨sg390092, esg390092⟩ : ∃ z, z = sG sg390084 (5 * xp.toNatClampNeg + xn.toNatClampNeg) 3 z390089 := ⟨_, rfl⟩
                          have hMR : MR w I390091 J390080 sg390092 := by rw [eI390091, esg390092]; exact hMR.wg hM hjl390023 (by decide) (by decide)
                          have hR : RM w [] I J I390091 J390080 := by rw [eI390091]; exact hR.pl hM hjl390023
                          have hMU : MU w I390091 := by rw [eI390091]; exact hMU.pl hM hjl390023
                          have hMX : MLx w E (5 * xp.toNatClampNeg + xn.toNatClampNeg) I390091 := by rw [eI390091]; exact hMX.put hM hjl390023
                          refine lv_aload hx hb dX7_follow_289 (lv_at hl 5 rfl) ?_
                          refine lv_aload hx hb dX7_follow_291 (lv_at hl 5 rfl) ?_
                          obtain ⟨j390093, hj390093⟩ := wG_6 (cy := cy) (N := N) (T := T) (I := I390091) (Q := Q) (J := J390080) (hM.lg hjl390023).1 (hM.lg hjl390023).2
                          refine va_get (D := (dC, dI)) (ci := 6) (v := .int (I390091 (w (21 + (5 * xp.toNatClampNeg + xn.toNatClampNeg))) 1)) (C := RX6) (T := TX6) (N := 7) hx hb hts hi6 hown hK hP j390093 hj390093 rfl 1 (by decide) (hts (.fieldLink RX7 134 "TallyLogsModel$Log" "start" "I") (by decide +kernel)) (fun _ h9 => h9) rfl dX7_follow_293 ?_
                          refine lv_topi (fun x390094 ex390094 => ?_)
                          have sx390094 : x390094 = sg390092.2.1 (5 * xp.toNatClampNeg + xn.toNatClampNeg) 1 := ex390094.trans (hMR.g hjl390023 (by decide) (by decide))
                          have ex390094 : x390094 = I390080 (w (21 + (5 * xp.toNatClampNeg + xn.toNatClampNeg))) 1 := by rw [ex390094, eI390091, p2_ne _ _ (fun q => absurd q.2 (by decide))]
                          have tx390094 : x390094.toInt = (I390080 (w (21 + (5 * xp.toNatClampNeg + xn.toNatClampNeg))) 1).toInt := congrArg Int32.toInt ex390094
                          refine lv_aload hx hb dX7_follow_296 (lv_at hl 5 rfl) ?_
                          obtain ⟨j390095, hj390095⟩ := wG_6 (cy := cy) (N := N) (T := T) (I := I390091) (Q := Q) (J := J390080) (hM.lg hjl390023).1 (hM.lg hjl390023).2
                          refine va_get (D := (dC, dI)) (ci := 6) (v := .int (I390091 (w (21 + (5 * xp.toNatClampNeg + xn.toNatClampNeg))) 4)) (C := RX6) (T := TX6) (N := 7) hx hb hts hi6 hown hK hP j390095 hj390095 rfl 4 (by decide) (hts (.fieldLink RX7 158 "TallyLogsModel$Log" "flushed" "I") (by decide +kernel)) (fun _ h9 => h9) rfl dX7_follow_298 ?_
                          refine lv_topi (fun x390096 ex390096 => ?_)
                          have sx390096 : x390096 = sg390092.2.1 (5 * xp.toNatClampNeg + xn.toNatClampNeg) 4 := ex390096.trans (hMR.g hjl390023 (by decide) (by decide))
                          have ex390096 : x390096 = I390080 (w (21 + (5 * xp.toNatClampNeg + xn.toNatClampNeg))) 4 := by rw [ex390096, eI390091, p2_ne _ _ (fun q => absurd q.2 (by decide))]
                          have tx390096 : x390096.toInt = (I390080 (w (21 + (5 * xp.toNatClampNeg + xn.toNatClampNeg))) 4).toInt := congrArg Int32.toInt ex390096
                          refine lv_aload hx hb dX7_follow_301 (lv_at hl 5 rfl) ?_
                          obtain ⟨j390097, hj390097⟩ := wG_6 (cy := cy) (N := N) (T := T) (I := I390091) (Q := Q) (J := J390080) (hM.lg hjl390023).1 (hM.lg hjl390023).2
                          refine va_get (D := (dC, dI)) (ci := 6) (v := .int (I390091 (w (21 + (5 * xp.toNatClampNeg + xn.toNatClampNeg))) 2)) (C := RX6) (T := TX6) (N := 7) hx hb hts hi6 hown hK hP j390097 hj390097 rfl 2 (by decide) (hts (.fieldLink RX7 89 "TallyLogsModel$Log" "end" "I") (by decide +kernel)) (fun _ h9 => h9) rfl dX7_follow_303 ?_
                          refine lv_topi (fun x390098 ex390098 => ?_)
                          have sx390098 : x390098 = sg390092.2.1 (5 * xp.toNatClampNeg + xn.toNatClampNeg) 2 := ex390098.trans (hMR.g hjl390023 (by decide) (by decide))
                          have ex390098 : x390098 = I390080 (w (21 + (5 * xp.toNatClampNeg + xn.toNatClampNeg))) 2 := by rw [ex390098, eI390091, p2_ne _ _ (fun q => absurd q.2 (by decide))]
                          have tx390098 : x390098.toInt = (I390080 (w (21 + (5 * xp.toNatClampNeg + xn.toNatClampNeg))) 2).toInt := congrArg Int32.toInt ex390098
                          refine va_mmin hx hb (by rw [hml]; exact hl.1.symm) hown (hts (.methodLink RX7 105 Lib.Math.min.name) (by decide +kernel)) (hts (.static Lib.Math.min.name) (by decide +kernel)) (hts (.initialized "java/lang/Math") (by decide +kernel)) (hts _ (List.mem_of_getElem? (i := 12) rfl)) (Nat.le_of_ble_eq_true rfl) (Nat.le_of_ble_eq_true rfl) (Nat.le_of_ble_eq_true rfl) (Nat.le_of_ble_eq_true rfl) dX7_follow_306 ?_
                          refine lv_topi (fun z390099 ez390099 => ?_)
                          have tz390099 : z390099.toInt = min x390096.toInt x390098.toInt := (xmin_t ez390099)
                          refine va_mmax hx hb (by rw [hml]; exact hl.1.symm) hown (hts (.methodLink RX7 155 Lib.Math.max.name) (by decide +kernel)) (hts (.static Lib.Math.max.name) (by decide +kernel)) (hts (.initialized "java/lang/Math") (by decide +kernel)) (hts _ (List.mem_of_getElem? (i := 8) rfl)) (Nat.le_of_ble_eq_true rfl) (Nat.le_of_ble_eq_true rfl) (Nat.le_of_ble_eq_true rfl) (Nat.le_of_ble_eq_true rfl) dX7_follow_309 ?_
                          refine lv_topi (fun z390100 ez390100 => ?_)
                          have tz390100 : z390100.toInt = max x390094.toInt z390099.toInt := (xmax_t ez390100)
                          obtain ⟨j390101, hj390101⟩ := wG_6 (cy := cy) (N := N) (T := T) (I := I390091) (Q := Q) (J := J390080) (hM.lg hjl390023).1 (hM.lg hjl390023).2
                          have hDo := hD
                          refine va_put (D := (dC, dI)) (ci := 6) (v := .int z390100) (ty := .int) (C := RX6) (T := TX6) (N := 7) hx hb hts hi6 tyX6 tyX6_ok nmX6 hown hK hP hD hS j390101 hj390101 rfl 4 (by decide) (hts (.fieldLink RX7 158 "TallyLogsModel$Log" "flushed" "I") (by decide +kernel)) (fun _ h9 => h9) rfl (by decide +kernel) rfl rfl (Nat.le_of_ble_eq_true rfl) dX7_follow_312 (fun H locs hP hD hS => ?_)
                          have hP := Eq.mp (congrArg (fun w => va_P (dC, dI) vwCl w H) (wP_6_4 (x := z390100) hDo (hM.lg hjl390023).1 (hM.lg hjl390023).2 hj390101)) hP
                          obtain ⟨I390102, eI390102⟩ : ∃ z, z = p2 I390091 (w (21 + (5 * xp.toNatClampNeg + xn.toNatClampNeg))) 4 z390100 := ⟨_, rfl⟩
                          rw [← eI390102] at hP
                          have hD : va_D A (va_pl L (wF cy K N T I390102 Q J390080)) := pD hDo
                          obtain ⟨sg390103, esg390103⟩ : ∃ z, z = sG sg390092 (5 * xp.toNatClampNeg + xn.toNatClampNeg) 4 z390100 := ⟨_, rfl⟩
                          have hMR : MR w I390102 J390080 sg390103 := by rw [eI390102, esg390103]; exact hMR.wg hM hjl390023 (by decide) (by decide)
                          have hR : RM w [] I J I390102 J390080 := by rw [eI390102]; exact hR.pl hM hjl390023
                          have hMU : MU w I390102 := by rw [eI390102]; exact hMU.pl hM hjl390023
                          have hMX : MLx w E (5 * xp.toNatClampNeg + xn.toNatClampNeg) I390102 := by rw [eI390102]; exact hMX.put hM hjl390023
                          have z390104_1 : (I390102 (w (21 + (5 * xp.toNatClampNeg + xn.toNatClampNeg))) 1).toInt = (I390080 (w (21 + (5 * xp.toNatClampNeg + xn.toNatClampNeg))) 1).toInt := by rw [eI390102, p2_ne _ _ (fun q => absurd q.2 (by decide)), eI390091, p2_ne _ _ (fun q => absurd q.2 (by decide))]
                          have z390104_2 : (I390102 (w (21 + (5 * xp.toNatClampNeg + xn.toNatClampNeg))) 2).toInt = (I390080 (w (21 + (5 * xp.toNatClampNeg + xn.toNatClampNeg))) 2).toInt := by rw [eI390102, p2_ne _ _ (fun q => absurd q.2 (by decide)), eI390091, p2_ne _ _ (fun q => absurd q.2 (by decide))]
                          have z390104_3 : (I390102 (w (21 + (5 * xp.toNatClampNeg + xn.toNatClampNeg))) 3).toInt = z390089.toInt := by rw [eI390102, p2_ne _ _ (fun q => absurd q.2 (by decide)), eI390091, p2_at]
                          have z390104_4 : (I390102 (w (21 + (5 * xp.toNatClampNeg + xn.toNatClampNeg))) 4).toInt = z390100.toInt := by rw [eI390102, p2_at]
                          have hMLz : ML w E I390102 := hMX.to ⟨by omega, by omega, by omega, by omega, by omega, by omega⟩
                          refine lv_iload hx hb dX7_follow_315 (lv_at hl 0 rfl) ?_
                          rw [hQz]
                          exact W.iret (v := y390039) hx hb hr (fun t ht hW => ⟨⟨y390039, (I390102, J390080), rfl, ⟨⟨hMLz.mono (by omega), hMD, hMU⟩, by have hfa : oFa σ (5 * xp.toNatClampNeg + xn.toNatClampNeg) (5 * xp.toNatClampNeg + n390015) xp.toNatClampNeg xn = sg390037 := (by rw [oFa, ← esg390024_73, ← esg390024_147, ← esg390024_196, ← esg390024_220, esg390037]); have h5 : oF5 sg390042 (5 * xp.toNatClampNeg + xn.toNatClampNeg) (5 * xp.toNatClampNeg + n390015) = sg390103 := (by rw [esg390103, ez390100, ez390099, sx390094, sx390096, sx390098, esg390092, sG_o (f := 3) (g := 1) (by decide), sG_o (f := 3) (g := 4) (by decide), sG_o (f := 3) (g := 2) (by decide), ez390089, sx390086, sx390088, esg390084, sx390078, oF5]; simp only [imn, imx] <;> rfl); have e9 : qFo σ xn xp = (sg390103, y390039) := (by rw [qFo, if_neg (by have k9 := c390003; simp only [hir390001] at k9; exact k9), if_neg (by have k9 := c390007; simp only [hir390005] at k9; exact k9), if_neg (by have k9 := c390012; simp only [sx390011] at k9; exact k9), oqn390015]; show (oF5 (oTn (oFa σ (5 * xp.toNatClampNeg + xn.toNatClampNeg) (5 * xp.toNatClampNeg + n390015) xp.toNatClampNeg xn) (5 * xp.toNatClampNeg + xn.toNatClampNeg) (5 * xp.toNatClampNeg + n390015) 5).1 (5 * xp.toNatClampNeg + xn.toNatClampNeg) (5 * xp.toNatClampNeg + n390015), (oTn (oFa σ (5 * xp.toNatClampNeg + xn.toNatClampNeg) (5 * xp.toNatClampNeg + n390015) xp.toNatClampNeg xn) (5 * xp.toNatClampNeg + xn.toNatClampNeg) (5 * xp.toNatClampNeg + n390015) 5).2) = _; rw [hfa, hT5, ← esg390042, h5, hiu390040]); show MR w I390102 J390080 _; rw [e9]; exact hMR, by have hfa : oFa σ (5 * xp.toNatClampNeg + xn.toNatClampNeg) (5 * xp.toNatClampNeg + n390015) xp.toNatClampNeg xn = sg390037 := (by rw [oFa, ← esg390024_73, ← esg390024_147, ← esg390024_196, ← esg390024_220, esg390037]); have h5 : oF5 sg390042 (5 * xp.toNatClampNeg + xn.toNatClampNeg) (5 * xp.toNatClampNeg + n390015) = sg390103 := (by rw [esg390103, ez390100, ez390099, sx390094, sx390096, sx390098, esg390092, sG_o (f := 3) (g := 1) (by decide), sG_o (f := 3) (g := 4) (by decide), sG_o (f := 3) (g := 2) (by decide), ez390089, sx390086, sx390088, esg390084, sx390078, oF5]; simp only [imn, imx] <;> rfl); have e9 : qFo σ xn xp = (sg390103, y390039) := (by rw [qFo, if_neg (by have k9 := c390003; simp only [hir390001] at k9; exact k9), if_neg (by have k9 := c390007; simp only [hir390005] at k9; exact k9), if_neg (by have k9 := c390012; simp only [sx390011] at k9; exact k9), oqn390015]; show (oF5 (oTn (oFa σ (5 * xp.toNatClampNeg + xn.toNatClampNeg) (5 * xp.toNatClampNeg + n390015) xp.toNatClampNeg xn) (5 * xp.toNatClampNeg + xn.toNatClampNeg) (5 * xp.toNatClampNeg + n390015) 5).1 (5 * xp.toNatClampNeg + xn.toNatClampNeg) (5 * xp.toNatClampNeg + n390015), (oTn (oFa σ (5 * xp.toNatClampNeg + xn.toNatClampNeg) (5 * xp.toNatClampNeg + n390015) xp.toNatClampNeg xn) (5 * xp.toNatClampNeg + xn.toNatClampNeg) (5 * xp.toNatClampNeg + n390015) 5).2) = _; rw [hfa, hT5, ← esg390042, h5, hiu390040]); show _ = _; rw [e9]⟩, by rw [ht]; exact hP, va_K.moved hW.alike hK, hD⟩, hS.F ht⟩) hS.2.2 dX7_follow_317
                        · have kc390076 : ¬ (x390075.toInt ≤ x390073.toInt) := by have h9 := c390076; rw [xk_le] at h9; exact h9
                          refine lv_aload hx hb dX7_follow_246 (lv_at hl 5 rfl) ?_
                          refine lv_aload_n hx hb dX7_follow_248 rfl (lv_at hl 4 rfl) ?_
                          refine lv_aload hx hb dX7_follow_249 (lv_at hl 5 rfl) ?_
                          obtain ⟨j390105, hj390105⟩ := wG_6 (cy := cy) (N := N) (T := T) (I := Ia390038) (Q := Q) (J := Ja390038) (hM.lg hjl390023).1 (hM.lg hjl390023).2
                          refine va_get (D := (dC, dI)) (ci := 6) (v := .int (Ia390038 (w (21 + (5 * xp.toNatClampNeg + xn.toNatClampNeg))) 2)) (C := RX6) (T := TX6) (N := 7) hx hb hts hi6 hown hK hP j390105 hj390105 rfl 2 (by decide) (hts (.fieldLink RX7 89 "TallyLogsModel$Log" "end" "I") (by decide +kernel)) (fun _ h9 => h9) rfl dX7_follow_251 ?_
                          refine lv_topi (fun x390106 ex390106 => ?_)
                          have sx390106 : x390106 = sg390042.2.1 (5 * xp.toNatClampNeg + xn.toNatClampNeg) 2 := ex390106.trans (hMR.g hjl390023 (by decide) (by decide))
                          have tx390106 : x390106.toInt = (Ia390038 (w (21 + (5 * xp.toNatClampNeg + xn.toNatClampNeg))) 2).toInt := congrArg Int32.toInt ex390106
                          obtain ⟨j390107, hj390107⟩ := wG_6 (cy := cy) (N := N) (T := T) (I := Ia390038) (Q := Q) (J := Ja390038) (hM.lg hjl390023).1 (hM.lg hjl390023).2
                          have hFc := pfree hD hS hA
                          refine va_callv (va_runV (As := [.ref (w (21 + (5 * xp.toNatClampNeg + n390015))), .int x390106]) (rest := []) ⟨hx, hb, hml, hown, hts⟩ (f_X6_take l dC dI cy w L K N T Q Ia390038 Ja390038 H.size (5 * xp.toNatClampNeg + xn.toNatClampNeg) (5 * xp.toNatClampNeg + n390015) x390106 sg390042 hM hjl390023 hjn390015 (by omega) (by omega) (by omega) (by omega) (by omega) (by omega) (by omega) (by omega) hMR) (cwV 2 hts gX7_follow_X6_take rfl rfl rfl (by decide +kernel) ⟨Nat.le_of_ble_eq_true rfl, Nat.le_of_ble_eq_true rfl⟩) ⟨mw_blind, va_recv hK hP (ci := 6) (q0 := j390107) rfl hj390107, fun U hU hW => ⟨rfl, mw_pre hP hK hD hU hW⟩⟩ rfl rfl hl.1 rfl (lv_room (Nat.le_of_ble_eq_true rfl)) dX7_follow_254 ⟨Nat.le_of_ble_eq_true rfl, Nat.le_of_ble_eq_true rfl⟩) hS (fun q _ h => hFc q h) hFc (fun d9 t H1 locs ht hvm hw hB hz1 hk1 hS => ?_)
                          obtain ⟨I390108, J390108⟩ := d9
                          obtain ⟨hP, hK1, hD1⟩ := hB
                          rw [ht] at hP
                          have hD := hD1.weaken (fun _ _ _ h => hFc _ h)
                          generalize H1 = H at hP hS ⊢
                          have hP : va_P (dC, dI) vwCl (va_pl L (wF cy K N T I390108 Q J390108)) H := hP
                          have hD : va_D A (va_pl L (wF cy K N T I390108 Q J390108)) := hD
                          have hMRn := hw.1
                          have hw := hw.2
                          have hw390110 : LW w Ia390038 Ja390038 I390108 J390108 (5 * xp.toNatClampNeg + xn.toNatClampNeg) _ _ := hw
                          have hR : RM w [] I J I390108 J390108 := hR.lw hM hjl390023 hw390110
                          have hMD : MD w J390108 := hMD.lw hM hjl390023 hw390110
                          have hMU : MU w I390108 := hMU.lw hM hjl390023 hw390110
                          have hMX : MLx w E (5 * xp.toNatClampNeg + xn.toNatClampNeg) I390108 := hMX.lw hM hjl390023 hw390110
                          have q1hw390110 : (I390108 (w (21 + (5 * xp.toNatClampNeg + xn.toNatClampNeg))) 1).toInt = _ := hw390110.2.2.1
                          have q2hw390110 : (I390108 (w (21 + (5 * xp.toNatClampNeg + xn.toNatClampNeg))) 2).toInt = _ := hw390110.2.2.2
                          have q4hw390110 : (I390108 (w (21 + (5 * xp.toNatClampNeg + xn.toNatClampNeg))) 4).toInt = _ := congrArg Int32.toInt hw390110.f4
                          have l1hw390110 : (I390108 (w (21 + (5 * xp.toNatClampNeg + n390015))) 1).toInt = _ := congrArg Int32.toInt (hw390110.other hM hjl390023 hjn390015 (f := 1) (by omega))
                          have l2hw390110 : (I390108 (w (21 + (5 * xp.toNatClampNeg + n390015))) 2).toInt = _ := congrArg Int32.toInt (hw390110.other hM hjl390023 hjn390015 (f := 2) (by omega))
                          have l3hw390110 : (I390108 (w (21 + (5 * xp.toNatClampNeg + n390015))) 3).toInt = _ := congrArg Int32.toInt (hw390110.other hM hjl390023 hjn390015 (f := 3) (by omega))
                          have el390111 : J390108 (w 4) xp.toNatClampNeg = nI n390015 := by rw [hw390110.2.1 _ (hM.ne (i := 4) (by omega) (by omega) (by omega))]; exact (by exact el390041)
                          obtain ⟨sg390112, esg390112⟩ : ∃ z, z = oTk sg390042 (5 * xp.toNatClampNeg + xn.toNatClampNeg) (5 * xp.toNatClampNeg + n390015) x390106 := ⟨_, rfl⟩
                          have hMR : MR w I390108 J390108 sg390112 := by rw [esg390112]; exact hMRn
                          obtain ⟨v390113, ev390113⟩ : ∃ y : Int32, y = y390039 + Int32.ofInt 1 := ⟨_, rfl⟩
                          refine lv_iinc (v := v390113) (lv' := [(6, .int v390113), (0, .ref (w 0)), (1, .int xn), (2, .int xp), (3, .ref (w (21 + (5 * xp.toNatClampNeg + n390015)))), (4, .ref (w (21 + (5 * xp.toNatClampNeg + xn.toNatClampNeg))))]) hx hb dX7_follow_257 hl (k := 0) rfl ev390113.symm (by decide) rfl (fun ls hl => ?_)
                          refine lv_goto (tgt := 228) hx hb dX7_follow_260 (by decide) ?_
                          have tv390113 : v390113.toInt = y390039.toInt + 1 := by rw [ev390113, show y390039 + Int32.ofInt 1 = y390039 + 1 from rfl]; exact xinc (y := (5 : Int32)) (by rw [xk_lt, xk_5]; omega)
                          exact ih390038 _ _ _ _ _ _ (by omega) (by omega) (⟨⟨hMX, (by exact el390111), by omega, by omega, by omega, by omega, by omega, by omega, by omega⟩, by have hst : oTn sg390037 (5 * xp.toNatClampNeg + xn.toNatClampNeg) (5 * xp.toNatClampNeg + n390015) v390113.toNatClampNeg = (sg390112, v390113) := (by rw [clsucc (y := y390039) (by omega) tv390113]; show (if _ then _ else _) = _; rw [← esg390042, if_neg (by have k9 := c390076; simp only [sx390073, sx390075] at k9; exact k9), hiu390040, esg390112, sx390106]; exact Prod.ext rfl ev390113.symm); rw [hst]⟩) hR hMD hMU (by have hst : oTn sg390037 (5 * xp.toNatClampNeg + xn.toNatClampNeg) (5 * xp.toNatClampNeg + n390015) v390113.toNatClampNeg = (sg390112, v390113) := (by rw [clsucc (y := y390039) (by omega) tv390113]; show (if _ then _ else _) = _; rw [← esg390042, if_neg (by have k9 := c390076; simp only [sx390073, sx390075] at k9; exact k9), hiu390040, esg390112, sx390106]; exact Prod.ext rfl ev390113.symm); rw [hst]; exact hMR) hP hD hS (lv_sub hl [0, 1, 2, 3, 4, 5] rfl)
                  exact hLP390038 _ _ _ _ _ _ _ (Nat.lt_succ_self _) (by decide) (⟨⟨hMX, (by exact el390036), by omega, by omega, by rw [xk_0]; omega, by omega, by omega, Or.inl (by decide), by decide⟩, by rw [cl_0]; rfl⟩) hR hMD hMU (by rw [cl_0]; exact hMR) hP hD hS (lv_sub hl [0, 1, 2, 3, 4, 5] rfl)
                refine lv_aload hx hb dX7_follow_196 (lv_at hl 4 rfl) ?_
                obtain ⟨j390114, hj390114⟩ := wG_6 (cy := cy) (N := N) (T := T) (I := Ia390029) (Q := Q) (J := Ja390029) (hM.lg hjl390023).1 (hM.lg hjl390023).2
                refine va_get (D := (dC, dI)) (ci := 6) (v := .int (Ia390029 (w (21 + (5 * xp.toNatClampNeg + xn.toNatClampNeg))) 2)) (C := RX6) (T := TX6) (N := 7) hx hb hts hi6 hown hK hP j390114 hj390114 rfl 2 (by decide) (hts (.fieldLink RX7 89 "TallyLogsModel$Log" "end" "I") (by decide +kernel)) (fun _ h9 => h9) rfl dX7_follow_198 ?_
                refine lv_topi (fun x390115 ex390115 => ?_)
                have sx390115 : x390115 = sg390024_196.2.1 (5 * xp.toNatClampNeg + xn.toNatClampNeg) 2 := ex390115.trans (hMR.g hjl390023 (by decide) (by decide))
                have tx390115 : x390115.toInt = (Ia390029 (w (21 + (5 * xp.toNatClampNeg + xn.toNatClampNeg))) 2).toInt := congrArg Int32.toInt ex390115
                refine lv_aload_n hx hb dX7_follow_201 rfl (lv_at hl 3 rfl) ?_
                obtain ⟨j390116, hj390116⟩ := wG_6 (cy := cy) (N := N) (T := T) (I := Ia390029) (Q := Q) (J := Ja390029) (hM.lg hjn390015).1 (hM.lg hjn390015).2
                refine va_get (D := (dC, dI)) (ci := 6) (v := .int (Ia390029 (w (21 + (5 * xp.toNatClampNeg + n390015))) 3)) (C := RX6) (T := TX6) (N := 7) hx hb hts hi6 hown hK hP j390116 hj390116 rfl 3 (by decide) (hts (.fieldLink RX7 109 "TallyLogsModel$Log" "high" "I") (by decide +kernel)) (fun _ h9 => h9) rfl dX7_follow_202 ?_
                refine lv_topi (fun x390117 ex390117 => ?_)
                have sx390117 : x390117 = sg390024_196.2.1 (5 * xp.toNatClampNeg + n390015) 3 := ex390117.trans (hMR.g hjn390015 (by decide) (by decide))
                have tx390117 : x390117.toInt = (Ia390029 (w (21 + (5 * xp.toNatClampNeg + n390015))) 3).toInt := congrArg Int32.toInt ex390117
                refine lv_icmp_lt (tgt := 220) hx hb dX7_follow_205 (by decide) (fun c390118 => ?_) (fun c390118 => ?_)
                · have kc390118 : x390115.toInt < x390117.toInt := by have h9 := c390118; rw [xk_lt] at h9; exact h9
                  have hsg : sg390024_220 = sg390024_196 := by rw [esg390024_220, oF3, if_pos (by have k9 := c390118; simp only [sx390115, sx390117] at k9; exact k9)]
                  exact hJN220 _ _ _ _ _ ⟨hMX, by omega, by omega, by omega, by omega, by omega⟩ (by exact el390029) hR hMD hMU (by rw [hsg]; exact hMR) hP hD hS (lv_sub hl [0, 1, 2, 3, 4] rfl)
                · have kc390118 : ¬ (x390115.toInt < x390117.toInt) := by have h9 := c390118; rw [xk_lt] at h9; exact h9
                  refine lv_aload_n hx hb dX7_follow_208 rfl (lv_at hl 0 rfl) ?_
                  obtain ⟨j390120, hj390120⟩ := wG_7 (cy := cy) (N := N) (T := T) (I := Ia390029) (Q := Q) (J := Ja390029) (hM.at 0 (by decide)) (hM.k 0 (by decide) rfl)
                  refine va_get (D := (dC, dI)) (ci := 7) (v := .ref (T (w 0) 6)) (C := RX7) (T := TX7) (N := 18) hx hb hts hi7 hown hK hP j390120 hj390120 rfl 6 (by decide) (hts (.fieldLink RX7 31 "TallyLogsModel" "step" "[I") (by decide +kernel)) (fun _ h9 => h9) rfl dX7_follow_209 ?_
                  refine W.eq (g2 := F0 m 212 ls [.ref (w 7)]) (by rw [hM.t 6 (by decide)]) ?_
                  refine lv_iload_n hx hb dX7_follow_212 rfl (lv_at hl 2 rfl) ?_
                  refine lv_dup2_11 hx hb dX7_follow_213 rfl rfl ?_
                  obtain ⟨j390121, hj390121⟩ := wG_20 (cy := cy) (N := N) (T := T) (I := Ia390029) (Q := Q) (J := Ja390029) (hM.at 7 (by decide)) (hM.k 7 (by decide) rfl)
                  refine va_iald hx hb hK hP j390121 1 hj390121 rfl (hM.inN (n := 4) 7 (by decide) rfl rfl hrp390004.1.1) dX7_follow_214 ?_
                  refine lv_topi (fun x390122 ex390122 => ?_)
                  have sx390122 : x390122 = sg390024_196.1 7 xp.toNatClampNeg := ex390122.trans (hMR.a (k := 7) (by decide) (by decide) (show _ < 4 from vp_lt (n := 4) hrp390004.1.1))
                  refine lv_iconst (v := 1) hx hb dX7_follow_215 (by decide) ?_
                  refine lv_iload_n hx hb dX7_follow_216 rfl (lv_at hl 1 rfl) ?_
                  refine lv_ishl hx hb dX7_follow_217 ?_
                  refine lv_topi (fun v390123 ev390123 => ?_)
                  refine lv_ior hx hb dX7_follow_218 ?_
                  refine lv_topi (fun v390124 ev390124 => ?_)
                  obtain ⟨j390125, hj390125⟩ := wG_20 (cy := cy) (N := N) (T := T) (I := Ia390029) (Q := Q) (J := Ja390029) (hM.at 7 (by decide)) (hM.k 7 (by decide) rfl)
                  have hDo := hD
                  refine va_iast (x := v390124) hx hb hK hP hD hS j390125 1 hj390125 rfl (hM.inN (n := 4) 7 (by decide) rfl rfl hrp390004.1.1) dX7_follow_219 (fun H locs hP hD hS => ?_)
                  have hP := Eq.mp (congrArg (fun w => va_P (dC, dI) vwCl w H) (wS_20 hDo (hM.at 7 (by decide)) (hM.k 7 (by decide) rfl) hj390125)) hP
                  obtain ⟨J390126, eJ390126⟩ : ∃ z, z = va_up Ja390029 (w 7) (upd (Ja390029 (w 7)) xp.toNatClampNeg v390124) := ⟨_, rfl⟩
                  rw [← eJ390126] at hP
                  have hR : RM w [] I J Ia390029 J390126 := by rw [eJ390126]; exact hR.pj hM (by decide) (by decide)
                  have hMD : MD w J390126 := by
                    rw [eJ390126, ev390124, ex390122]
                    exact hMD.p7 hM (hMD _ (vp_lt (n := 4) hrp390004.1.1)).or
                  have hD : va_D A (va_pl L (wF cy K N T Ia390029 Q J390126)) := pD hDo
                  obtain ⟨sg390127, esg390127⟩ : ∃ z, z = sA sg390024_196 7 xp.toNatClampNeg v390124 := ⟨_, rfl⟩
                  have hMR : MR w Ia390029 J390126 sg390127 := by rw [eJ390126, esg390127]; exact hMR.wa hM (by decide) (by decide)
                  have hsg : sg390024_220 = sg390127 := by rw [esg390024_220, oF3, if_neg (by have k9 := c390118; simp only [sx390115, sx390117] at k9; exact k9)]; simp only [esg390127, ev390124, sx390122, ev390123]
                  exact hJN220 _ _ _ _ _ ⟨hMX, by omega, by omega, by omega, by omega, by omega⟩ (by rw [eJ390126, va_up_ne _ _ (hM.ne (by omega) (by omega) (by omega))]; exact el390029) hR hMD hMU (by rw [hsg]; exact hMR) hP hD hS (lv_sub hl [0, 1, 2, 3, 4] rfl)
              refine lv_aload hx hb dX7_follow_147 (lv_at hl 4 rfl) ?_
              refine lv_aload hx hb dX7_follow_149 (lv_at hl 4 rfl) ?_
              obtain ⟨j390129, hj390129⟩ := wG_6 (cy := cy) (N := N) (T := T) (I := Ia390028) (Q := Q) (J := Ja390028) (hM.lg hjl390023).1 (hM.lg hjl390023).2
              refine va_get (D := (dC, dI)) (ci := 6) (v := .int (Ia390028 (w (21 + (5 * xp.toNatClampNeg + xn.toNatClampNeg))) 4)) (C := RX6) (T := TX6) (N := 7) hx hb hts hi6 hown hK hP j390129 hj390129 rfl 4 (by decide) (hts (.fieldLink RX7 158 "TallyLogsModel$Log" "flushed" "I") (by decide +kernel)) (fun _ h9 => h9) rfl dX7_follow_151 ?_
              refine lv_topi (fun x390130 ex390130 => ?_)
              have sx390130 : x390130 = sg390024_147.2.1 (5 * xp.toNatClampNeg + xn.toNatClampNeg) 4 := ex390130.trans (hMR.g hjl390023 (by decide) (by decide))
              have tx390130 : x390130.toInt = (Ia390028 (w (21 + (5 * xp.toNatClampNeg + xn.toNatClampNeg))) 4).toInt := congrArg Int32.toInt ex390130
              refine lv_aload hx hb dX7_follow_154 (lv_at hl 4 rfl) ?_
              obtain ⟨j390131, hj390131⟩ := wG_6 (cy := cy) (N := N) (T := T) (I := Ia390028) (Q := Q) (J := Ja390028) (hM.lg hjl390023).1 (hM.lg hjl390023).2
              refine va_get (D := (dC, dI)) (ci := 6) (v := .int (Ia390028 (w (21 + (5 * xp.toNatClampNeg + xn.toNatClampNeg))) 2)) (C := RX6) (T := TX6) (N := 7) hx hb hts hi6 hown hK hP j390131 hj390131 rfl 2 (by decide) (hts (.fieldLink RX7 89 "TallyLogsModel$Log" "end" "I") (by decide +kernel)) (fun _ h9 => h9) rfl dX7_follow_156 ?_
              refine lv_topi (fun x390132 ex390132 => ?_)
              have sx390132 : x390132 = sg390024_147.2.1 (5 * xp.toNatClampNeg + xn.toNatClampNeg) 2 := ex390132.trans (hMR.g hjl390023 (by decide) (by decide))
              have tx390132 : x390132.toInt = (Ia390028 (w (21 + (5 * xp.toNatClampNeg + xn.toNatClampNeg))) 2).toInt := congrArg Int32.toInt ex390132
              refine va_mmin hx hb (by rw [hml]; exact hl.1.symm) hown (hts (.methodLink RX7 105 Lib.Math.min.name) (by decide +kernel)) (hts (.static Lib.Math.min.name) (by decide +kernel)) (hts (.initialized "java/lang/Math") (by decide +kernel)) (hts _ (List.mem_of_getElem? (i := 12) rfl)) (Nat.le_of_ble_eq_true rfl) (Nat.le_of_ble_eq_true rfl) (Nat.le_of_ble_eq_true rfl) (Nat.le_of_ble_eq_true rfl) dX7_follow_159 ?_
              refine lv_topi (fun z390133 ez390133 => ?_)
              have tz390133 : z390133.toInt = min x390130.toInt x390132.toInt := (xmin_t ez390133)
              obtain ⟨j390134, hj390134⟩ := wG_6 (cy := cy) (N := N) (T := T) (I := Ia390028) (Q := Q) (J := Ja390028) (hM.lg hjl390023).1 (hM.lg hjl390023).2
              have hDo := hD
              refine va_put (D := (dC, dI)) (ci := 6) (v := .int z390133) (ty := .int) (C := RX6) (T := TX6) (N := 7) hx hb hts hi6 tyX6 tyX6_ok nmX6 hown hK hP hD hS j390134 hj390134 rfl 4 (by decide) (hts (.fieldLink RX7 158 "TallyLogsModel$Log" "flushed" "I") (by decide +kernel)) (fun _ h9 => h9) rfl (by decide +kernel) rfl rfl (Nat.le_of_ble_eq_true rfl) dX7_follow_162 (fun H locs hP hD hS => ?_)
              have hP := Eq.mp (congrArg (fun w => va_P (dC, dI) vwCl w H) (wP_6_4 (x := z390133) hDo (hM.lg hjl390023).1 (hM.lg hjl390023).2 hj390134)) hP
              obtain ⟨I390135, eI390135⟩ : ∃ z, z = p2 Ia390028 (w (21 + (5 * xp.toNatClampNeg + xn.toNatClampNeg))) 4 z390133 := ⟨_, rfl⟩
              rw [← eI390135] at hP
              have hD : va_D A (va_pl L (wF cy K N T I390135 Q Ja390028)) := pD hDo
              obtain ⟨sg390136, esg390136⟩ : ∃ z, z = sG sg390024_147 (5 * xp.toNatClampNeg + xn.toNatClampNeg) 4 z390133 := ⟨_, rfl⟩
              have hMR : MR w I390135 Ja390028 sg390136 := by rw [eI390135, esg390136]; exact hMR.wg hM hjl390023 (by decide) (by decide)
              have hR : RM w [] I J I390135 Ja390028 := by rw [eI390135]; exact hR.pl hM hjl390023
              have hMU : MU w I390135 := by rw [eI390135]; exact hMU.pl hM hjl390023
              have hMX : MLx w E (5 * xp.toNatClampNeg + xn.toNatClampNeg) I390135 := by rw [eI390135]; exact hMX.put hM hjl390023
              refine lv_aload hx hb dX7_follow_165 (lv_at hl 4 rfl) ?_
              refine lv_aload hx hb dX7_follow_167 (lv_at hl 4 rfl) ?_
              obtain ⟨j390137, hj390137⟩ := wG_6 (cy := cy) (N := N) (T := T) (I := I390135) (Q := Q) (J := Ja390028) (hM.lg hjl390023).1 (hM.lg hjl390023).2
              refine va_get (D := (dC, dI)) (ci := 6) (v := .int (I390135 (w (21 + (5 * xp.toNatClampNeg + xn.toNatClampNeg))) 2)) (C := RX6) (T := TX6) (N := 7) hx hb hts hi6 hown hK hP j390137 hj390137 rfl 2 (by decide) (hts (.fieldLink RX7 89 "TallyLogsModel$Log" "end" "I") (by decide +kernel)) (fun _ h9 => h9) rfl dX7_follow_169 ?_
              refine lv_topi (fun x390138 ex390138 => ?_)
              have sx390138 : x390138 = sg390136.2.1 (5 * xp.toNatClampNeg + xn.toNatClampNeg) 2 := ex390138.trans (hMR.g hjl390023 (by decide) (by decide))
              have ex390138 : x390138 = Ia390028 (w (21 + (5 * xp.toNatClampNeg + xn.toNatClampNeg))) 2 := by rw [ex390138, eI390135, p2_ne _ _ (fun q => absurd q.2 (by decide))]
              have tx390138 : x390138.toInt = (Ia390028 (w (21 + (5 * xp.toNatClampNeg + xn.toNatClampNeg))) 2).toInt := congrArg Int32.toInt ex390138
              obtain ⟨j390139, hj390139⟩ := wG_6 (cy := cy) (N := N) (T := T) (I := I390135) (Q := Q) (J := Ja390028) (hM.lg hjl390023).1 (hM.lg hjl390023).2
              have hDo := hD
              refine va_put (D := (dC, dI)) (ci := 6) (v := .int x390138) (ty := .int) (C := RX6) (T := TX6) (N := 7) hx hb hts hi6 tyX6 tyX6_ok nmX6 hown hK hP hD hS j390139 hj390139 rfl 5 (by decide) (hts (.fieldLink RX7 92 "TallyLogsModel$Log" "known" "I") (by decide +kernel)) (fun _ h9 => h9) rfl (by decide +kernel) rfl rfl (Nat.le_of_ble_eq_true rfl) dX7_follow_172 (fun H locs hP hD hS => ?_)
              have hP := Eq.mp (congrArg (fun w => va_P (dC, dI) vwCl w H) (wP_6_5 (x := x390138) hDo (hM.lg hjl390023).1 (hM.lg hjl390023).2 hj390139)) hP
              obtain ⟨I390140, eI390140⟩ : ∃ z, z = p2 I390135 (w (21 + (5 * xp.toNatClampNeg + xn.toNatClampNeg))) 5 x390138 := ⟨_, rfl⟩
              rw [← eI390140] at hP
              have hD : va_D A (va_pl L (wF cy K N T I390140 Q Ja390028)) := pD hDo
              obtain ⟨sg390141, esg390141⟩ : ∃ z, z = sG sg390136 (5 * xp.toNatClampNeg + xn.toNatClampNeg) 5 x390138 := ⟨_, rfl⟩
              have hMR : MR w I390140 Ja390028 sg390141 := by rw [eI390140, esg390141]; exact hMR.wg hM hjl390023 (by decide) (by decide)
              have hR : RM w [] I J I390140 Ja390028 := by rw [eI390140]; exact hR.pl hM hjl390023
              have hMU : MU w I390140 := by rw [eI390140]; exact hMU.pl hM hjl390023
              have hMX : MLx w E (5 * xp.toNatClampNeg + xn.toNatClampNeg) I390140 := by rw [eI390140]; exact hMX.put hM hjl390023
              refine lv_aload hx hb dX7_follow_175 (lv_at hl 4 rfl) ?_
              obtain ⟨j390142, hj390142⟩ := wG_6 (cy := cy) (N := N) (T := T) (I := I390140) (Q := Q) (J := Ja390028) (hM.lg hjl390023).1 (hM.lg hjl390023).2
              refine va_get (D := (dC, dI)) (ci := 6) (v := .int (I390140 (w (21 + (5 * xp.toNatClampNeg + xn.toNatClampNeg))) 2)) (C := RX6) (T := TX6) (N := 7) hx hb hts hi6 hown hK hP j390142 hj390142 rfl 2 (by decide) (hts (.fieldLink RX7 89 "TallyLogsModel$Log" "end" "I") (by decide +kernel)) (fun _ h9 => h9) rfl dX7_follow_177 ?_
              refine lv_topi (fun x390143 ex390143 => ?_)
              have sx390143 : x390143 = sg390141.2.1 (5 * xp.toNatClampNeg + xn.toNatClampNeg) 2 := ex390143.trans (hMR.g hjl390023 (by decide) (by decide))
              have ex390143 : x390143 = Ia390028 (w (21 + (5 * xp.toNatClampNeg + xn.toNatClampNeg))) 2 := by rw [ex390143, eI390140, p2_ne _ _ (fun q => absurd q.2 (by decide)), eI390135, p2_ne _ _ (fun q => absurd q.2 (by decide))]
              have tx390143 : x390143.toInt = (Ia390028 (w (21 + (5 * xp.toNatClampNeg + xn.toNatClampNeg))) 2).toInt := congrArg Int32.toInt ex390143
              refine lv_aload_n hx hb dX7_follow_180 rfl (lv_at hl 3 rfl) ?_
              obtain ⟨j390144, hj390144⟩ := wG_6 (cy := cy) (N := N) (T := T) (I := I390140) (Q := Q) (J := Ja390028) (hM.lg hjn390015).1 (hM.lg hjn390015).2
              refine va_get (D := (dC, dI)) (ci := 6) (v := .int (I390140 (w (21 + (5 * xp.toNatClampNeg + n390015))) 2)) (C := RX6) (T := TX6) (N := 7) hx hb hts hi6 hown hK hP j390144 hj390144 rfl 2 (by decide) (hts (.fieldLink RX7 89 "TallyLogsModel$Log" "end" "I") (by decide +kernel)) (fun _ h9 => h9) rfl dX7_follow_181 ?_
              refine lv_topi (fun x390145 ex390145 => ?_)
              have sx390145 : x390145 = sg390141.2.1 (5 * xp.toNatClampNeg + n390015) 2 := ex390145.trans (hMR.g hjn390015 (by decide) (by decide))
              have ex390145 : x390145 = Ia390028 (w (21 + (5 * xp.toNatClampNeg + n390015))) 2 := by rw [ex390145, eI390140, p2_na _ _ (hM.ne (by omega) (by omega) (by omega)), eI390135, p2_na _ _ (hM.ne (by omega) (by omega) (by omega))]
              have tx390145 : x390145.toInt = (Ia390028 (w (21 + (5 * xp.toNatClampNeg + n390015))) 2).toInt := congrArg Int32.toInt ex390145
              refine lv_icmp_ne (tgt := 196) hx hb dX7_follow_184 (by decide) (fun c390146 => ?_) (fun c390146 => ?_)
              · have kc390146 : ¬ (x390143.toInt = x390145.toInt) := by have h9 := c390146; rw [xk_eq] at h9; exact h9
                have n390147_01 : (I390140 (w (21 + (5 * xp.toNatClampNeg + xn.toNatClampNeg))) 1).toInt = (Ia390028 (w (21 + (5 * xp.toNatClampNeg + xn.toNatClampNeg))) 1).toInt := by rw [eI390140, p2_ne _ _ (fun q => absurd q.2 (by decide)), eI390135, p2_ne _ _ (fun q => absurd q.2 (by decide))]
                have n390147_02 : (I390140 (w (21 + (5 * xp.toNatClampNeg + xn.toNatClampNeg))) 2).toInt = (Ia390028 (w (21 + (5 * xp.toNatClampNeg + xn.toNatClampNeg))) 2).toInt := by rw [eI390140, p2_ne _ _ (fun q => absurd q.2 (by decide)), eI390135, p2_ne _ _ (fun q => absurd q.2 (by decide))]
                have n390147_11 : (I390140 (w (21 + (5 * xp.toNatClampNeg + n390015))) 1).toInt = (Ia390028 (w (21 + (5 * xp.toNatClampNeg + n390015))) 1).toInt := by rw [eI390140, p2_na _ _ (hM.ne (by omega) (by omega) (by omega)), eI390135, p2_na _ _ (hM.ne (by omega) (by omega) (by omega))]
                have hsg : sg390024_196 = sg390141 := by have hB : sg390141 = oF1 sg390024_147 (5 * xp.toNatClampNeg + xn.toNatClampNeg) := (by rw [oF1, esg390141, sx390138, esg390136, sG_o (by decide), ez390133, sx390130, sx390132, imn]); rw [esg390024_196, ← hB, oF2, if_neg (by have k9 := c390146; simp only [sx390143, sx390145] at k9; exact k9)]
                exact hJN196 _ _ _ _ _ ⟨hMX, by omega, by omega, by omega, by omega, by omega⟩ (by exact el390028) hR hMD hMU (by rw [hsg]; exact hMR) hP hD hS (lv_sub hl [0, 1, 2, 3, 4] rfl)
              · have kc390146 : x390143.toInt = x390145.toInt := by have h9 := c390146; rw [xk_eq] at h9; exact h9
                refine lv_aload hx hb dX7_follow_187 (lv_at hl 4 rfl) ?_
                refine lv_aload_n hx hb dX7_follow_189 rfl (lv_at hl 0 rfl) ?_
                obtain ⟨j390148, hj390148⟩ := wG_7 (cy := cy) (N := N) (T := T) (I := I390140) (Q := Q) (J := Ja390028) (hM.at 0 (by decide)) (hM.k 0 (by decide) rfl)
                refine va_get (D := (dC, dI)) (ci := 7) (v := .int (I390140 (w 0) 17)) (C := RX7) (T := TX7) (N := 18) hx hb hts hi7 hown hK hP j390148 hj390148 rfl 17 (by decide) (hts (.fieldLink RX7 119 "TallyLogsModel" "now" "I") (by decide +kernel)) (fun _ h9 => h9) rfl dX7_follow_190 ?_
                refine lv_topi (fun x390149 ex390149 => ?_)
                have sx390149 : x390149 = sg390141.1 0 1 := ex390149.trans hMR.1.2
                have ex390149 : x390149 = Ia390028 (w 0) 17 := by rw [ex390149, eI390140, p2_na _ _ (hM.ne (by omega) (by omega) (by omega)), eI390135, p2_na _ _ (hM.ne (by omega) (by omega) (by omega))]
                have tx390149 : x390149.toInt = (Ia390028 (w 0) 17).toInt := congrArg Int32.toInt ex390149
                obtain ⟨j390150, hj390150⟩ := wG_6 (cy := cy) (N := N) (T := T) (I := I390140) (Q := Q) (J := Ja390028) (hM.lg hjl390023).1 (hM.lg hjl390023).2
                have hDo := hD
                refine va_put (D := (dC, dI)) (ci := 6) (v := .int x390149) (ty := .int) (C := RX6) (T := TX6) (N := 7) hx hb hts hi6 tyX6 tyX6_ok nmX6 hown hK hP hD hS j390150 hj390150 rfl 6 (by decide) (hts (.fieldLink RX7 122 "TallyLogsModel$Log" "caught" "I") (by decide +kernel)) (fun _ h9 => h9) rfl (by decide +kernel) rfl rfl (Nat.le_of_ble_eq_true rfl) dX7_follow_193 (fun H locs hP hD hS => ?_)
                have hP := Eq.mp (congrArg (fun w => va_P (dC, dI) vwCl w H) (wP_6_6 (x := x390149) hDo (hM.lg hjl390023).1 (hM.lg hjl390023).2 hj390150)) hP
                obtain ⟨I390151, eI390151⟩ : ∃ z, z = p2 I390140 (w (21 + (5 * xp.toNatClampNeg + xn.toNatClampNeg))) 6 x390149 := ⟨_, rfl⟩
                rw [← eI390151] at hP
                have hD : va_D A (va_pl L (wF cy K N T I390151 Q Ja390028)) := pD hDo
                obtain ⟨sg390152, esg390152⟩ : ∃ z, z = sG sg390141 (5 * xp.toNatClampNeg + xn.toNatClampNeg) 6 x390149 := ⟨_, rfl⟩
                have hMR : MR w I390151 Ja390028 sg390152 := by rw [eI390151, esg390152]; exact hMR.wg hM hjl390023 (by decide) (by decide)
                have hR : RM w [] I J I390151 Ja390028 := by rw [eI390151]; exact hR.pl hM hjl390023
                have hMU : MU w I390151 := by rw [eI390151]; exact hMU.pl hM hjl390023
                have hMX : MLx w E (5 * xp.toNatClampNeg + xn.toNatClampNeg) I390151 := by rw [eI390151]; exact hMX.put hM hjl390023
                have n390153_01 : (I390151 (w (21 + (5 * xp.toNatClampNeg + xn.toNatClampNeg))) 1).toInt = (Ia390028 (w (21 + (5 * xp.toNatClampNeg + xn.toNatClampNeg))) 1).toInt := by rw [eI390151, p2_ne _ _ (fun q => absurd q.2 (by decide)), eI390140, p2_ne _ _ (fun q => absurd q.2 (by decide)), eI390135, p2_ne _ _ (fun q => absurd q.2 (by decide))]
                have n390153_02 : (I390151 (w (21 + (5 * xp.toNatClampNeg + xn.toNatClampNeg))) 2).toInt = (Ia390028 (w (21 + (5 * xp.toNatClampNeg + xn.toNatClampNeg))) 2).toInt := by rw [eI390151, p2_ne _ _ (fun q => absurd q.2 (by decide)), eI390140, p2_ne _ _ (fun q => absurd q.2 (by decide)), eI390135, p2_ne _ _ (fun q => absurd q.2 (by decide))]
                have n390153_11 : (I390151 (w (21 + (5 * xp.toNatClampNeg + n390015))) 1).toInt = (Ia390028 (w (21 + (5 * xp.toNatClampNeg + n390015))) 1).toInt := by rw [eI390151, p2_na _ _ (hM.ne (by omega) (by omega) (by omega)), eI390140, p2_na _ _ (hM.ne (by omega) (by omega) (by omega)), eI390135, p2_na _ _ (hM.ne (by omega) (by omega) (by omega))]
                have hsg : sg390024_196 = sg390152 := by have hB : sg390141 = oF1 sg390024_147 (5 * xp.toNatClampNeg + xn.toNatClampNeg) := (by rw [oF1, esg390141, sx390138, esg390136, sG_o (by decide), ez390133, sx390130, sx390132, imn]); rw [esg390024_196, ← hB, oF2, if_pos (by have k9 := c390146; simp only [sx390143, sx390145] at k9; exact k9), esg390152, sx390149]
                exact hJN196 _ _ _ _ _ ⟨hMX, by omega, by omega, by omega, by omega, by omega⟩ (by exact el390028) hR hMD hMU (by rw [hsg]; exact hMR) hP hD hS (lv_sub hl [0, 1, 2, 3, 4] rfl)
            refine lv_aload hx hb dX7_follow_73 (lv_at hl 4 rfl) ?_
            obtain ⟨j390154, hj390154⟩ := wG_6 (cy := cy) (N := N) (T := T) (I := Ia390027) (Q := Q) (J := Ja390027) (hM.lg hjl390023).1 (hM.lg hjl390023).2
            refine va_get (D := (dC, dI)) (ci := 6) (v := .int (Ia390027 (w (21 + (5 * xp.toNatClampNeg + xn.toNatClampNeg))) 1)) (C := RX6) (T := TX6) (N := 7) hx hb hts hi6 hown hK hP j390154 hj390154 rfl 1 (by decide) (hts (.fieldLink RX7 134 "TallyLogsModel$Log" "start" "I") (by decide +kernel)) (fun _ h9 => h9) rfl dX7_follow_75 ?_
            refine lv_topi (fun x390155 ex390155 => ?_)
            have sx390155 : x390155 = sg390024_73.2.1 (5 * xp.toNatClampNeg + xn.toNatClampNeg) 1 := ex390155.trans (hMR.g hjl390023 (by decide) (by decide))
            have tx390155 : x390155.toInt = (Ia390027 (w (21 + (5 * xp.toNatClampNeg + xn.toNatClampNeg))) 1).toInt := congrArg Int32.toInt ex390155
            refine lv_aload_n hx hb dX7_follow_78 rfl (lv_at hl 3 rfl) ?_
            obtain ⟨j390156, hj390156⟩ := wG_6 (cy := cy) (N := N) (T := T) (I := Ia390027) (Q := Q) (J := Ja390027) (hM.lg hjn390015).1 (hM.lg hjn390015).2
            refine va_get (D := (dC, dI)) (ci := 6) (v := .int (Ia390027 (w (21 + (5 * xp.toNatClampNeg + n390015))) 1)) (C := RX6) (T := TX6) (N := 7) hx hb hts hi6 hown hK hP j390156 hj390156 rfl 1 (by decide) (hts (.fieldLink RX7 134 "TallyLogsModel$Log" "start" "I") (by decide +kernel)) (fun _ h9 => h9) rfl dX7_follow_79 ?_
            refine lv_topi (fun x390157 ex390157 => ?_)
            have sx390157 : x390157 = sg390024_73.2.1 (5 * xp.toNatClampNeg + n390015) 1 := ex390157.trans (hMR.g hjn390015 (by decide) (by decide))
            have tx390157 : x390157.toInt = (Ia390027 (w (21 + (5 * xp.toNatClampNeg + n390015))) 1).toInt := congrArg Int32.toInt ex390157
            refine va_mmax hx hb (by rw [hml]; exact hl.1.symm) hown (hts (.methodLink RX7 155 Lib.Math.max.name) (by decide +kernel)) (hts (.static Lib.Math.max.name) (by decide +kernel)) (hts (.initialized "java/lang/Math") (by decide +kernel)) (hts _ (List.mem_of_getElem? (i := 8) rfl)) (Nat.le_of_ble_eq_true rfl) (Nat.le_of_ble_eq_true rfl) (Nat.le_of_ble_eq_true rfl) (Nat.le_of_ble_eq_true rfl) dX7_follow_82 ?_
            refine lv_topi (fun z390158 ez390158 => ?_)
            have tz390158 : z390158.toInt = max x390155.toInt x390157.toInt := (xmax_t ez390158)
            refine lv_istore (lv' := [(5, .int z390158), (0, .ref (w 0)), (1, .int xn), (2, .int xp), (3, .ref (w (21 + (5 * xp.toNatClampNeg + n390015)))), (4, .ref (w (21 + (5 * xp.toNatClampNeg + xn.toNatClampNeg))))]) hx hb dX7_follow_85 hl (by decide) rfl (fun ls hl => ?_)
            have hLP390159 : ∀ (n : Nat) (y390160 : Int32) (ls : Array Slot), ((Ia390027 (w (21 + (5 * xp.toNatClampNeg + xn.toNatClampNeg))) 2).toInt - y390160.toInt).toNat < n → 0 ≤ y390160.toInt → ((Ia390027 (w (21 + (5 * xp.toNatClampNeg + xn.toNatClampNeg))) 1).toInt ≤ y390160.toInt ∧ (Ia390027 (w (21 + (5 * xp.toNatClampNeg + n390015))) 1).toInt ≤ y390160.toInt ∧ fW (pAg sg390024_73 (5 * xp.toNatClampNeg + xn.toNatClampNeg) (5 * xp.toNatClampNeg + n390015)) (ze sg390024_73 (5 * xp.toNatClampNeg + xn.toNatClampNeg) - y390160.toNatClampNeg) y390160.toNatClampNeg = oPt sg390024_73 (5 * xp.toNatClampNeg + xn.toNatClampNeg) (5 * xp.toNatClampNeg + n390015)) → lv_has ls 7 [(5, .int y390160), (0, .ref (w 0)), (1, .int xn), (2, .int xp), (3, .ref (w (21 + (5 * xp.toNatClampNeg + n390015)))), (4, .ref (w (21 + (5 * xp.toNatClampNeg + xn.toNatClampNeg))))] → W p l e (headSpec wsX7_follow ({ frames := 4, cells := 0, slots := 0, locals := 99 })).room s m ([.ref (w 0), .int xn, .int xp] : List Value).toArray below meth c H locs 0 0 Qz (F0 m 87 ls []) := by
              intro n
              induction n with
              | zero => intro y390160 ls hms; exact absurd hms (Nat.not_lt_zero _)
              | succ n ih390159 =>
                intro y390160 ls hms hnn390159 hiv390159 hl
                obtain ⟨hiw, hiw2, _⟩ := id hiv390159
                refine lv_iload hx hb dX7_follow_87 (lv_at hl 0 rfl) ?_
                refine lv_aload hx hb dX7_follow_89 (lv_at hl 5 rfl) ?_
                obtain ⟨j390161, hj390161⟩ := wG_6 (cy := cy) (N := N) (T := T) (I := Ia390027) (Q := Q) (J := Ja390027) (hM.lg hjl390023).1 (hM.lg hjl390023).2
                refine va_get (D := (dC, dI)) (ci := 6) (v := .int (Ia390027 (w (21 + (5 * xp.toNatClampNeg + xn.toNatClampNeg))) 2)) (C := RX6) (T := TX6) (N := 7) hx hb hts hi6 hown hK hP j390161 hj390161 rfl 2 (by decide) (hts (.fieldLink RX7 89 "TallyLogsModel$Log" "end" "I") (by decide +kernel)) (fun _ h9 => h9) rfl dX7_follow_91 ?_
                refine lv_topi (fun x390162 ex390162 => ?_)
                have sx390162 : x390162 = sg390024_73.2.1 (5 * xp.toNatClampNeg + xn.toNatClampNeg) 2 := ex390162.trans (hMR.g hjl390023 (by decide) (by decide))
                have tx390162 : x390162.toInt = (Ia390027 (w (21 + (5 * xp.toNatClampNeg + xn.toNatClampNeg))) 2).toInt := congrArg Int32.toInt ex390162
                refine lv_icmp_ge (tgt := 130) hx hb dX7_follow_94 (by decide) (fun c390163 => ?_) (fun c390163 => ?_)
                · have kc390163 : x390162.toInt ≤ y390160.toInt := by have h9 := c390163; rw [xk_le] at h9; exact h9
                  have hpt : oPt sg390024_73 (5 * xp.toNatClampNeg + xn.toNatClampNeg) (5 * xp.toNatClampNeg + n390015) = y390160.toNatClampNeg := by rw [← hiv390159.2.2, fW_end (hMR.gee hjl390023 (by omega))]
                  have hpn : nI (oPt sg390024_73 (5 * xp.toNatClampNeg + xn.toNatClampNeg) (5 * xp.toNatClampNeg + n390015)) = y390160 := by rw [hpt, nI, ← xcl9 (by omega)]
                  refine lv_iload hx hb dX7_follow_130 (lv_at hl 0 rfl) ?_
                  refine lv_aload hx hb dX7_follow_132 (lv_at hl 5 rfl) ?_
                  obtain ⟨j390164, hj390164⟩ := wG_6 (cy := cy) (N := N) (T := T) (I := Ia390027) (Q := Q) (J := Ja390027) (hM.lg hjl390023).1 (hM.lg hjl390023).2
                  refine va_get (D := (dC, dI)) (ci := 6) (v := .int (Ia390027 (w (21 + (5 * xp.toNatClampNeg + xn.toNatClampNeg))) 2)) (C := RX6) (T := TX6) (N := 7) hx hb hts hi6 hown hK hP j390164 hj390164 rfl 2 (by decide) (hts (.fieldLink RX7 89 "TallyLogsModel$Log" "end" "I") (by decide +kernel)) (fun _ h9 => h9) rfl dX7_follow_134 ?_
                  refine lv_topi (fun x390165 ex390165 => ?_)
                  have sx390165 : x390165 = sg390024_73.2.1 (5 * xp.toNatClampNeg + xn.toNatClampNeg) 2 := ex390165.trans (hMR.g hjl390023 (by decide) (by decide))
                  have tx390165 : x390165.toInt = (Ia390027 (w (21 + (5 * xp.toNatClampNeg + xn.toNatClampNeg))) 2).toInt := congrArg Int32.toInt ex390165
                  refine lv_icmp_ge (tgt := 147) hx hb dX7_follow_137 (by decide) (fun c390166 => ?_) (fun c390166 => ?_)
                  · have kc390166 : x390165.toInt ≤ y390160.toInt := by have h9 := c390166; rw [xk_le] at h9; exact h9
                    have hsg : sg390024_147 = sg390024_73 := by rw [esg390024_147, oCt, if_pos (by have k9 := c390166; rw [hpn]; simp only [sx390165] at k9; exact k9)]
                    exact hJN147 _ _ _ _ _ ⟨hMX, by omega, by omega, by omega, by omega, by omega⟩ (by exact el390027) hR hMD hMU (by rw [hsg]; exact hMR) hP hD hS (lv_sub hl [1, 2, 3, 4, 5] rfl)
                  · have kc390166 : ¬ (x390165.toInt ≤ y390160.toInt) := by have h9 := c390166; rw [xk_le] at h9; exact h9
                    refine lv_aload hx hb dX7_follow_140 (lv_at hl 5 rfl) ?_
                    refine lv_iload hx hb dX7_follow_142 (lv_at hl 0 rfl) ?_
                    obtain ⟨j390168, hj390168⟩ := wG_6 (cy := cy) (N := N) (T := T) (I := Ia390027) (Q := Q) (J := Ja390027) (hM.lg hjl390023).1 (hM.lg hjl390023).2
                    have hDo := hD
                    refine va_put (D := (dC, dI)) (ci := 6) (v := .int y390160) (ty := .int) (C := RX6) (T := TX6) (N := 7) hx hb hts hi6 tyX6 tyX6_ok nmX6 hown hK hP hD hS j390168 hj390168 rfl 2 (by decide) (hts (.fieldLink RX7 89 "TallyLogsModel$Log" "end" "I") (by decide +kernel)) (fun _ h9 => h9) rfl (by decide +kernel) rfl rfl (Nat.le_of_ble_eq_true rfl) dX7_follow_144 (fun H locs hP hD hS => ?_)
                    have hP := Eq.mp (congrArg (fun w => va_P (dC, dI) vwCl w H) (wP_6_2 (x := y390160) hDo (hM.lg hjl390023).1 (hM.lg hjl390023).2 hj390168)) hP
                    obtain ⟨I390169, eI390169⟩ : ∃ z, z = p2 Ia390027 (w (21 + (5 * xp.toNatClampNeg + xn.toNatClampNeg))) 2 y390160 := ⟨_, rfl⟩
                    rw [← eI390169] at hP
                    have hD : va_D A (va_pl L (wF cy K N T I390169 Q Ja390027)) := pD hDo
                    obtain ⟨sg390170, esg390170⟩ : ∃ z, z = sG sg390024_73 (5 * xp.toNatClampNeg + xn.toNatClampNeg) 2 y390160 := ⟨_, rfl⟩
                    have hMR : MR w I390169 Ja390027 sg390170 := by rw [eI390169, esg390170]; exact hMR.we hM hjl390023 (hMR.lee hjl390023 (by omega))
                    have hR : RM w [] I J I390169 Ja390027 := by rw [eI390169]; exact hR.pl hM hjl390023
                    have hMU : MU w I390169 := by rw [eI390169]; exact hMU.pl hM hjl390023
                    have hMX : MLx w E (5 * xp.toNatClampNeg + xn.toNatClampNeg) I390169 := by rw [eI390169]; exact hMX.put hM hjl390023
                    have n390171_01 : (I390169 (w (21 + (5 * xp.toNatClampNeg + xn.toNatClampNeg))) 1).toInt = (Ia390027 (w (21 + (5 * xp.toNatClampNeg + xn.toNatClampNeg))) 1).toInt := by rw [eI390169, p2_ne _ _ (fun q => absurd q.2 (by decide))]
                    have n390171_02 : (I390169 (w (21 + (5 * xp.toNatClampNeg + xn.toNatClampNeg))) 2).toInt = y390160.toInt := by rw [eI390169, p2_at]
                    have n390171_11 : (I390169 (w (21 + (5 * xp.toNatClampNeg + n390015))) 1).toInt = (Ia390027 (w (21 + (5 * xp.toNatClampNeg + n390015))) 1).toInt := by rw [eI390169, p2_na _ _ (hM.ne (by omega) (by omega) (by omega))]
                    have hsg : sg390024_147 = sg390170 := by rw [esg390024_147, oCt, if_neg (by have k9 := c390166; rw [hpn]; simp only [sx390165] at k9; exact k9), hpn, esg390170]
                    exact hJN147 _ _ _ _ _ ⟨hMX, by omega, by omega, by omega, by omega, by omega⟩ (by exact el390027) hR hMD hMU (by rw [hsg]; exact hMR) hP hD hS (lv_sub hl [1, 2, 3, 4, 5] rfl)
                · have kc390163 : ¬ (x390162.toInt ≤ y390160.toInt) := by have h9 := c390163; rw [xk_le] at h9; exact h9
                  refine lv_iload hx hb dX7_follow_97 (lv_at hl 0 rfl) ?_
                  refine lv_aload_n hx hb dX7_follow_99 rfl (lv_at hl 4 rfl) ?_
                  obtain ⟨j390172, hj390172⟩ := wG_6 (cy := cy) (N := N) (T := T) (I := Ia390027) (Q := Q) (J := Ja390027) (hM.lg hjn390015).1 (hM.lg hjn390015).2
                  refine va_get (D := (dC, dI)) (ci := 6) (v := .int (Ia390027 (w (21 + (5 * xp.toNatClampNeg + n390015))) 2)) (C := RX6) (T := TX6) (N := 7) hx hb hts hi6 hown hK hP j390172 hj390172 rfl 2 (by decide) (hts (.fieldLink RX7 89 "TallyLogsModel$Log" "end" "I") (by decide +kernel)) (fun _ h9 => h9) rfl dX7_follow_100 ?_
                  refine lv_topi (fun x390173 ex390173 => ?_)
                  have sx390173 : x390173 = sg390024_73.2.1 (5 * xp.toNatClampNeg + n390015) 2 := ex390173.trans (hMR.g hjn390015 (by decide) (by decide))
                  have tx390173 : x390173.toInt = (Ia390027 (w (21 + (5 * xp.toNatClampNeg + n390015))) 2).toInt := congrArg Int32.toInt ex390173
                  refine lv_icmp_ge (tgt := 130) hx hb dX7_follow_103 (by decide) (fun c390174 => ?_) (fun c390174 => ?_)
                  · have kc390174 : x390173.toInt ≤ y390160.toInt := by have h9 := c390174; rw [xk_le] at h9; exact h9
                    have hpt : oPt sg390024_73 (5 * xp.toNatClampNeg + xn.toNatClampNeg) (5 * xp.toNatClampNeg + n390015) = y390160.toNatClampNeg := by rw [← hiv390159.2.2, fW_stop (fun q => absurd (of_decide_eq_true q).1 (hMR.nlt hjn390015 (by omega)))]
                    have hpn : nI (oPt sg390024_73 (5 * xp.toNatClampNeg + xn.toNatClampNeg) (5 * xp.toNatClampNeg + n390015)) = y390160 := by rw [hpt, nI, ← xcl9 (by omega)]
                    refine lv_iload hx hb dX7_follow_130 (lv_at hl 0 rfl) ?_
                    refine lv_aload hx hb dX7_follow_132 (lv_at hl 5 rfl) ?_
                    obtain ⟨j390175, hj390175⟩ := wG_6 (cy := cy) (N := N) (T := T) (I := Ia390027) (Q := Q) (J := Ja390027) (hM.lg hjl390023).1 (hM.lg hjl390023).2
                    refine va_get (D := (dC, dI)) (ci := 6) (v := .int (Ia390027 (w (21 + (5 * xp.toNatClampNeg + xn.toNatClampNeg))) 2)) (C := RX6) (T := TX6) (N := 7) hx hb hts hi6 hown hK hP j390175 hj390175 rfl 2 (by decide) (hts (.fieldLink RX7 89 "TallyLogsModel$Log" "end" "I") (by decide +kernel)) (fun _ h9 => h9) rfl dX7_follow_134 ?_
                    refine lv_topi (fun x390176 ex390176 => ?_)
                    have sx390176 : x390176 = sg390024_73.2.1 (5 * xp.toNatClampNeg + xn.toNatClampNeg) 2 := ex390176.trans (hMR.g hjl390023 (by decide) (by decide))
                    have tx390176 : x390176.toInt = (Ia390027 (w (21 + (5 * xp.toNatClampNeg + xn.toNatClampNeg))) 2).toInt := congrArg Int32.toInt ex390176
                    refine lv_icmp_ge (tgt := 147) hx hb dX7_follow_137 (by decide) (fun c390177 => ?_) (fun c390177 => ?_)
                    · have kc390177 : x390176.toInt ≤ y390160.toInt := by have h9 := c390177; rw [xk_le] at h9; exact h9
                      have hsg : sg390024_147 = sg390024_73 := by rw [esg390024_147, oCt, if_pos (by have k9 := c390177; rw [hpn]; simp only [sx390176] at k9; exact k9)]
                      exact hJN147 _ _ _ _ _ ⟨hMX, by omega, by omega, by omega, by omega, by omega⟩ (by exact el390027) hR hMD hMU (by rw [hsg]; exact hMR) hP hD hS (lv_sub hl [1, 2, 3, 4, 5] rfl)
                    · have kc390177 : ¬ (x390176.toInt ≤ y390160.toInt) := by have h9 := c390177; rw [xk_le] at h9; exact h9
                      refine lv_aload hx hb dX7_follow_140 (lv_at hl 5 rfl) ?_
                      refine lv_iload hx hb dX7_follow_142 (lv_at hl 0 rfl) ?_
                      obtain ⟨j390179, hj390179⟩ := wG_6 (cy := cy) (N := N) (T := T) (I := Ia390027) (Q := Q) (J := Ja390027) (hM.lg hjl390023).1 (hM.lg hjl390023).2
                      have hDo := hD
                      refine va_put (D := (dC, dI)) (ci := 6) (v := .int y390160) (ty := .int) (C := RX6) (T := TX6) (N := 7) hx hb hts hi6 tyX6 tyX6_ok nmX6 hown hK hP hD hS j390179 hj390179 rfl 2 (by decide) (hts (.fieldLink RX7 89 "TallyLogsModel$Log" "end" "I") (by decide +kernel)) (fun _ h9 => h9) rfl (by decide +kernel) rfl rfl (Nat.le_of_ble_eq_true rfl) dX7_follow_144 (fun H locs hP hD hS => ?_)
                      have hP := Eq.mp (congrArg (fun w => va_P (dC, dI) vwCl w H) (wP_6_2 (x := y390160) hDo (hM.lg hjl390023).1 (hM.lg hjl390023).2 hj390179)) hP
                      obtain ⟨I390180, eI390180⟩ : ∃ z, z = p2 Ia390027 (w (21 + (5 * xp.toNatClampNeg + xn.toNatClampNeg))) 2 y390160 := ⟨_, rfl⟩
                      rw [← eI390180] at hP
                      have hD : va_D A (va_pl L (wF cy K N T I390180 Q Ja390027)) := pD hDo
                      obtain ⟨sg390181, esg390181⟩ : ∃ z, z = sG sg390024_73 (5 * xp.toNatClampNeg + xn.toNatClampNeg) 2 y390160 := ⟨_, rfl⟩
                      have hMR : MR w I390180 Ja390027 sg390181 := by rw [eI390180, esg390181]; exact hMR.we hM hjl390023 (hMR.lee hjl390023 (by omega))
                      have hR : RM w [] I J I390180 Ja390027 := by rw [eI390180]; exact hR.pl hM hjl390023
                      have hMU : MU w I390180 := by rw [eI390180]; exact hMU.pl hM hjl390023
                      have hMX : MLx w E (5 * xp.toNatClampNeg + xn.toNatClampNeg) I390180 := by rw [eI390180]; exact hMX.put hM hjl390023
                      have n390182_01 : (I390180 (w (21 + (5 * xp.toNatClampNeg + xn.toNatClampNeg))) 1).toInt = (Ia390027 (w (21 + (5 * xp.toNatClampNeg + xn.toNatClampNeg))) 1).toInt := by rw [eI390180, p2_ne _ _ (fun q => absurd q.2 (by decide))]
                      have n390182_02 : (I390180 (w (21 + (5 * xp.toNatClampNeg + xn.toNatClampNeg))) 2).toInt = y390160.toInt := by rw [eI390180, p2_at]
                      have n390182_11 : (I390180 (w (21 + (5 * xp.toNatClampNeg + n390015))) 1).toInt = (Ia390027 (w (21 + (5 * xp.toNatClampNeg + n390015))) 1).toInt := by rw [eI390180, p2_na _ _ (hM.ne (by omega) (by omega) (by omega))]
                      have hsg : sg390024_147 = sg390181 := by rw [esg390024_147, oCt, if_neg (by have k9 := c390177; rw [hpn]; simp only [sx390176] at k9; exact k9), hpn, esg390181]
                      exact hJN147 _ _ _ _ _ ⟨hMX, by omega, by omega, by omega, by omega, by omega⟩ (by exact el390027) hR hMD hMU (by rw [hsg]; exact hMR) hP hD hS (lv_sub hl [1, 2, 3, 4, 5] rfl)
                  · have kc390174 : ¬ (x390173.toInt ≤ y390160.toInt) := by have h9 := c390174; rw [xk_le] at h9; exact h9
                    refine lv_aload hx hb dX7_follow_106 (lv_at hl 5 rfl) ?_
                    refine lv_iload hx hb dX7_follow_108 (lv_at hl 0 rfl) ?_
                    refine lv_iconst (v := 0) hx hb dX7_follow_110 (by decide) ?_
                    obtain ⟨j390184, hj390184⟩ := wG_6 (cy := cy) (N := N) (T := T) (I := Ia390027) (Q := Q) (J := Ja390027) (hM.lg hjl390023).1 (hM.lg hjl390023).2
                    refine vp_callSi (W.runV (As := [.int y390160, .int 0]) (rest := []) ⟨hx, hb, hml, hown, hts⟩ (f_X6_get l dC dI cy w L K N T Q Ia390027 Ja390027 (5 * xp.toNatClampNeg + xn.toNatClampNeg) y390160 0 sg390024_73 hM hjl390023 (by omega) (by omega) (by omega) (by omega) (by unfold vp_in; decide) hMR) (cwV 2 hts gX7_follow_X6_get rfl rfl rfl (by decide +kernel) ⟨Nat.le_of_ble_eq_true rfl, Nat.le_of_ble_eq_true rfl⟩) ⟨mb_blind, va_recv hK hP (ci := 6) (q0 := j390184) rfl hj390184, fun U hU hW => ⟨rfl, mb_pre hP hK hU hW⟩⟩ rfl rfl hl.1 rfl (lv_room (Nat.le_of_ble_eq_true rfl)) dX7_follow_111 ⟨Nat.le_of_ble_eq_true rfl, Nat.le_of_ble_eq_true rfl⟩) (fun r390183 hr390183 => ?_)
                    rw [show (0 : Int32).toNatClampNeg = 0 by decide] at hr390183
                    refine lv_aload_n hx hb dX7_follow_114 rfl (lv_at hl 4 rfl) ?_
                    refine lv_iload hx hb dX7_follow_115 (lv_at hl 0 rfl) ?_
                    refine lv_iconst (v := 0) hx hb dX7_follow_117 (by decide) ?_
                    obtain ⟨j390186, hj390186⟩ := wG_6 (cy := cy) (N := N) (T := T) (I := Ia390027) (Q := Q) (J := Ja390027) (hM.lg hjn390015).1 (hM.lg hjn390015).2
                    refine vp_callSi (W.runV (As := [.int y390160, .int 0]) (rest := [.int r390183]) ⟨hx, hb, hml, hown, hts⟩ (f_X6_get l dC dI cy w L K N T Q Ia390027 Ja390027 (5 * xp.toNatClampNeg + n390015) y390160 0 sg390024_73 hM hjn390015 (by omega) (by omega) (by omega) (by omega) (by unfold vp_in; decide) hMR) (cwV 2 hts gX7_follow_X6_get rfl rfl rfl (by decide +kernel) ⟨Nat.le_of_ble_eq_true rfl, Nat.le_of_ble_eq_true rfl⟩) ⟨mb_blind, va_recv hK hP (ci := 6) (q0 := j390186) rfl hj390186, fun U hU hW => ⟨rfl, mb_pre hP hK hU hW⟩⟩ rfl rfl hl.1 rfl (lv_room (Nat.le_of_ble_eq_true rfl)) dX7_follow_118 ⟨Nat.le_of_ble_eq_true rfl, Nat.le_of_ble_eq_true rfl⟩) (fun r390185 hr390185 => ?_)
                    rw [show (0 : Int32).toNatClampNeg = 0 by decide] at hr390185
                    refine lv_icmp_ne (tgt := 130) hx hb dX7_follow_121 (by decide) (fun c390187 => ?_) (fun c390187 => ?_)
                    · have kc390187 : ¬ (r390183.toInt = r390185.toInt) := by have h9 := c390187; rw [xk_eq] at h9; exact h9
                      have hpt : oPt sg390024_73 (5 * xp.toNatClampNeg + xn.toNatClampNeg) (5 * xp.toNatClampNeg + n390015) = y390160.toNatClampNeg := by rw [← hiv390159.2.2, fW_stop (fun q => c390187 (by rw [hr390183, hr390185]; exact (of_decide_eq_true q).2))]
                      have hpn : nI (oPt sg390024_73 (5 * xp.toNatClampNeg + xn.toNatClampNeg) (5 * xp.toNatClampNeg + n390015)) = y390160 := by rw [hpt, nI, ← xcl9 (by omega)]
                      refine lv_iload hx hb dX7_follow_130 (lv_at hl 0 rfl) ?_
                      refine lv_aload hx hb dX7_follow_132 (lv_at hl 5 rfl) ?_
                      obtain ⟨j390188, hj390188⟩ := wG_6 (cy := cy) (N := N) (T := T) (I := Ia390027) (Q := Q) (J := Ja390027) (hM.lg hjl390023).1 (hM.lg hjl390023).2
                      refine va_get (D := (dC, dI)) (ci := 6) (v := .int (Ia390027 (w (21 + (5 * xp.toNatClampNeg + xn.toNatClampNeg))) 2)) (C := RX6) (T := TX6) (N := 7) hx hb hts hi6 hown hK hP j390188 hj390188 rfl 2 (by decide) (hts (.fieldLink RX7 89 "TallyLogsModel$Log" "end" "I") (by decide +kernel)) (fun _ h9 => h9) rfl dX7_follow_134 ?_
                      refine lv_topi (fun x390189 ex390189 => ?_)
                      have sx390189 : x390189 = sg390024_73.2.1 (5 * xp.toNatClampNeg + xn.toNatClampNeg) 2 := ex390189.trans (hMR.g hjl390023 (by decide) (by decide))
                      have tx390189 : x390189.toInt = (Ia390027 (w (21 + (5 * xp.toNatClampNeg + xn.toNatClampNeg))) 2).toInt := congrArg Int32.toInt ex390189
                      refine lv_icmp_ge (tgt := 147) hx hb dX7_follow_137 (by decide) (fun c390190 => ?_) (fun c390190 => ?_)
                      · have kc390190 : x390189.toInt ≤ y390160.toInt := by have h9 := c390190; rw [xk_le] at h9; exact h9
                        have hsg : sg390024_147 = sg390024_73 := by rw [esg390024_147, oCt, if_pos (by have k9 := c390190; rw [hpn]; simp only [sx390189] at k9; exact k9)]
                        exact hJN147 _ _ _ _ _ ⟨hMX, by omega, by omega, by omega, by omega, by omega⟩ (by exact el390027) hR hMD hMU (by rw [hsg]; exact hMR) hP hD hS (lv_sub hl [1, 2, 3, 4, 5] rfl)
                      · have kc390190 : ¬ (x390189.toInt ≤ y390160.toInt) := by have h9 := c390190; rw [xk_le] at h9; exact h9
                        refine lv_aload hx hb dX7_follow_140 (lv_at hl 5 rfl) ?_
                        refine lv_iload hx hb dX7_follow_142 (lv_at hl 0 rfl) ?_
                        obtain ⟨j390192, hj390192⟩ := wG_6 (cy := cy) (N := N) (T := T) (I := Ia390027) (Q := Q) (J := Ja390027) (hM.lg hjl390023).1 (hM.lg hjl390023).2
                        have hDo := hD
                        refine va_put (D := (dC, dI)) (ci := 6) (v := .int y390160) (ty := .int) (C := RX6) (T := TX6) (N := 7) hx hb hts hi6 tyX6 tyX6_ok nmX6 hown hK hP hD hS j390192 hj390192 rfl 2 (by decide) (hts (.fieldLink RX7 89 "TallyLogsModel$Log" "end" "I") (by decide +kernel)) (fun _ h9 => h9) rfl (by decide +kernel) rfl rfl (Nat.le_of_ble_eq_true rfl) dX7_follow_144 (fun H locs hP hD hS => ?_)
                        have hP := Eq.mp (congrArg (fun w => va_P (dC, dI) vwCl w H) (wP_6_2 (x := y390160) hDo (hM.lg hjl390023).1 (hM.lg hjl390023).2 hj390192)) hP
                        obtain ⟨I390193, eI390193⟩ : ∃ z, z = p2 Ia390027 (w (21 + (5 * xp.toNatClampNeg + xn.toNatClampNeg))) 2 y390160 := ⟨_, rfl⟩
                        rw [← eI390193] at hP
                        have hD : va_D A (va_pl L (wF cy K N T I390193 Q Ja390027)) := pD hDo
                        obtain ⟨sg390194, esg390194⟩ : ∃ z, z = sG sg390024_73 (5 * xp.toNatClampNeg + xn.toNatClampNeg) 2 y390160 := ⟨_, rfl⟩
                        have hMR : MR w I390193 Ja390027 sg390194 := by rw [eI390193, esg390194]; exact hMR.we hM hjl390023 (hMR.lee hjl390023 (by omega))
                        have hR : RM w [] I J I390193 Ja390027 := by rw [eI390193]; exact hR.pl hM hjl390023
                        have hMU : MU w I390193 := by rw [eI390193]; exact hMU.pl hM hjl390023
                        have hMX : MLx w E (5 * xp.toNatClampNeg + xn.toNatClampNeg) I390193 := by rw [eI390193]; exact hMX.put hM hjl390023
                        have n390195_01 : (I390193 (w (21 + (5 * xp.toNatClampNeg + xn.toNatClampNeg))) 1).toInt = (Ia390027 (w (21 + (5 * xp.toNatClampNeg + xn.toNatClampNeg))) 1).toInt := by rw [eI390193, p2_ne _ _ (fun q => absurd q.2 (by decide))]
                        have n390195_02 : (I390193 (w (21 + (5 * xp.toNatClampNeg + xn.toNatClampNeg))) 2).toInt = y390160.toInt := by rw [eI390193, p2_at]
                        have n390195_11 : (I390193 (w (21 + (5 * xp.toNatClampNeg + n390015))) 1).toInt = (Ia390027 (w (21 + (5 * xp.toNatClampNeg + n390015))) 1).toInt := by rw [eI390193, p2_na _ _ (hM.ne (by omega) (by omega) (by omega))]
                        have hsg : sg390024_147 = sg390194 := by rw [esg390024_147, oCt, if_neg (by have k9 := c390190; rw [hpn]; simp only [sx390189] at k9; exact k9), hpn, esg390194]
                        exact hJN147 _ _ _ _ _ ⟨hMX, by omega, by omega, by omega, by omega, by omega⟩ (by exact el390027) hR hMD hMU (by rw [hsg]; exact hMR) hP hD hS (lv_sub hl [1, 2, 3, 4, 5] rfl)
                    · have kc390187 : r390183.toInt = r390185.toInt := by have h9 := c390187; rw [xk_eq] at h9; exact h9
                      obtain ⟨v390196, ev390196⟩ : ∃ y : Int32, y = y390160 + Int32.ofInt 1 := ⟨_, rfl⟩
                      refine lv_iinc (v := v390196) (lv' := [(5, .int v390196), (0, .ref (w 0)), (1, .int xn), (2, .int xp), (3, .ref (w (21 + (5 * xp.toNatClampNeg + n390015)))), (4, .ref (w (21 + (5 * xp.toNatClampNeg + xn.toNatClampNeg))))]) hx hb dX7_follow_124 hl (k := 0) rfl ev390196.symm (by decide) rfl (fun ls hl => ?_)
                      refine lv_goto (tgt := 87) hx hb dX7_follow_127 (by decide) ?_
                      have tv390196 : v390196.toInt = y390160.toInt + 1 := by rw [ev390196, show y390160 + Int32.ofInt 1 = y390160 + 1 from rfl]; exact xinc (y := Ia390027 (w (21 + (5 * xp.toNatClampNeg + xn.toNatClampNeg))) 2) (by rw [xk_lt]; omega)
                      exact ih390159 _ _ (by omega) (by omega) (⟨by omega, by omega, by rw [clsucc (y := y390160) (by omega) tv390196, ← fW_hit (hMR.lte hjl390023 (by omega) (by omega)) (decide_eq_true ⟨hMR.lte hjn390015 (by omega) (by omega), by rw [← hr390183, ← hr390185]; exact c390187⟩)]; exact hiv390159.2.2⟩)  (lv_sub hl [0, 1, 2, 3, 4, 5] rfl)
            exact hLP390159 _ _ _ (Nat.lt_succ_self _) (by omega) (⟨by omega, by omega, by have k9 : imx (sg390024_73.2.1 (5 * xp.toNatClampNeg + xn.toNatClampNeg) 1) (sg390024_73.2.1 (5 * xp.toNatClampNeg + n390015) 1) = z390158 := (by rw [imx, ← sx390155, ← sx390157]; exact ez390158.symm); rw [oPt, k9]⟩)  (lv_sub hl [0, 1, 2, 3, 4, 5] rfl)
          refine lv_aload hx hb dX7_follow_52 (lv_at hl 0 rfl) ?_
          obtain ⟨j390197, hj390197⟩ := wG_6 (cy := cy) (N := N) (T := T) (I := I) (Q := Q) (J := J) (hM.lg hjl390023).1 (hM.lg hjl390023).2
          refine va_get (D := (dC, dI)) (ci := 6) (v := .int (I (w (21 + (5 * xp.toNatClampNeg + xn.toNatClampNeg))) 2)) (C := RX6) (T := TX6) (N := 7) hx hb hts hi6 hown hK hP j390197 hj390197 rfl 2 (by decide) (hts (.fieldLink RX7 89 "TallyLogsModel$Log" "end" "I") (by decide +kernel)) (fun _ h9 => h9) rfl dX7_follow_54 ?_
          refine lv_topi (fun x390198 ex390198 => ?_)
          have sx390198 : x390198 = σ.2.1 (5 * xp.toNatClampNeg + xn.toNatClampNeg) 2 := ex390198.trans (hMR.g hjl390023 (by decide) (by decide))
          have tx390198 : x390198.toInt = (I (w (21 + (5 * xp.toNatClampNeg + xn.toNatClampNeg))) 2).toInt := congrArg Int32.toInt ex390198
          refine lv_aload_n hx hb dX7_follow_57 rfl (lv_at hl 1 rfl) ?_
          obtain ⟨j390199, hj390199⟩ := wG_6 (cy := cy) (N := N) (T := T) (I := I) (Q := Q) (J := J) (hM.lg hjn390015).1 (hM.lg hjn390015).2
          refine va_get (D := (dC, dI)) (ci := 6) (v := .int (I (w (21 + (5 * xp.toNatClampNeg + n390015))) 1)) (C := RX6) (T := TX6) (N := 7) hx hb hts hi6 hown hK hP j390199 hj390199 rfl 1 (by decide) (hts (.fieldLink RX7 134 "TallyLogsModel$Log" "start" "I") (by decide +kernel)) (fun _ h9 => h9) rfl dX7_follow_58 ?_
          refine lv_topi (fun x390200 ex390200 => ?_)
          have sx390200 : x390200 = σ.2.1 (5 * xp.toNatClampNeg + n390015) 1 := ex390200.trans (hMR.g hjn390015 (by decide) (by decide))
          have tx390200 : x390200.toInt = (I (w (21 + (5 * xp.toNatClampNeg + n390015))) 1).toInt := congrArg Int32.toInt ex390200
          refine lv_icmp_ge (tgt := 73) hx hb dX7_follow_61 (by decide) (fun c390201 => ?_) (fun c390201 => ?_)
          · have kc390201 : x390200.toInt ≤ x390198.toInt := by have h9 := c390201; rw [xk_le] at h9; exact h9
            have hsg : sg390024_73 = σ := by rw [esg390024_73, oAg, if_pos (by have k9 := c390201; simp only [sx390198, sx390200] at k9; exact k9)]
            exact hJN73 _ _ _ _ _ ⟨hMX, by omega, by omega, by omega, by omega, by omega⟩ (by exact eln390015) hR hMD hMU (by rw [hsg]; exact hMR) hP hD hS (lv_sub hl [2, 3, 4, 1, 0] rfl)
          · have kc390201 : ¬ (x390200.toInt ≤ x390198.toInt) := by have h9 := c390201; rw [xk_le] at h9; exact h9
            refine lv_aload hx hb dX7_follow_64 (lv_at hl 0 rfl) ?_
            refine lv_aload_n hx hb dX7_follow_66 rfl (lv_at hl 1 rfl) ?_
            obtain ⟨j390203, hj390203⟩ := wG_6 (cy := cy) (N := N) (T := T) (I := I) (Q := Q) (J := J) (hM.lg hjn390015).1 (hM.lg hjn390015).2
            refine va_get (D := (dC, dI)) (ci := 6) (v := .int (I (w (21 + (5 * xp.toNatClampNeg + n390015))) 1)) (C := RX6) (T := TX6) (N := 7) hx hb hts hi6 hown hK hP j390203 hj390203 rfl 1 (by decide) (hts (.fieldLink RX7 134 "TallyLogsModel$Log" "start" "I") (by decide +kernel)) (fun _ h9 => h9) rfl dX7_follow_67 ?_
            refine lv_topi (fun x390204 ex390204 => ?_)
            have sx390204 : x390204 = σ.2.1 (5 * xp.toNatClampNeg + n390015) 1 := ex390204.trans (hMR.g hjn390015 (by decide) (by decide))
            have tx390204 : x390204.toInt = (I (w (21 + (5 * xp.toNatClampNeg + n390015))) 1).toInt := congrArg Int32.toInt ex390204
            obtain ⟨j390205, hj390205⟩ := wG_6 (cy := cy) (N := N) (T := T) (I := I) (Q := Q) (J := J) (hM.lg hjl390023).1 (hM.lg hjl390023).2
            have hFc := pfree hD hS hA
            refine va_callv (va_runV (As := [.int x390204]) (rest := []) ⟨hx, hb, hml, hown, hts⟩ (f_X6_from l dC dI cy w L K N T Q I J s.heap.size (5 * xp.toNatClampNeg + xn.toNatClampNeg) x390204 σ hM hjl390023 (by omega) (by omega) (by omega) hMR) (cwV 1 hts gX7_follow_X6_from rfl rfl rfl (by decide +kernel) ⟨Nat.le_of_ble_eq_true rfl, Nat.le_of_ble_eq_true rfl⟩) ⟨mw_blind, va_recv hK hP (ci := 6) (q0 := j390205) rfl hj390205, fun U hU hW => ⟨rfl, mw_pre hP hK hD hU hW⟩⟩ rfl rfl hl.1 rfl (lv_room (Nat.le_of_ble_eq_true rfl)) dX7_follow_70 ⟨Nat.le_of_ble_eq_true rfl, Nat.le_of_ble_eq_true rfl⟩) hS (fun q _ h => hFc q h) hFc (fun d9 t H1 locs ht hvm hw hB hz1 hk1 hS => ?_)
            obtain ⟨I390206, J390206⟩ := d9
            obtain ⟨hP, hK1, hD1⟩ := hB
            rw [ht] at hP
            have hD := hD1.weaken (fun _ _ _ h => hFc _ h)
            generalize H1 = H at hP hS ⊢
            have hP : va_P (dC, dI) vwCl (va_pl L (wF cy K N T I390206 Q J390206)) H := hP
            have hD : va_D A (va_pl L (wF cy K N T I390206 Q J390206)) := hD
            have hMRn := hw.1
            have hw := hw.2
            have hw390208 : LW w I J I390206 J390206 (5 * xp.toNatClampNeg + xn.toNatClampNeg) _ _ := hw
            have hR : RM w [] I J I390206 J390206 := hR.lw hM hjl390023 hw390208
            have hMD : MD w J390206 := hMD.lw hM hjl390023 hw390208
            have hMU : MU w I390206 := hMU.lw hM hjl390023 hw390208
            have hMX : MLx w E (5 * xp.toNatClampNeg + xn.toNatClampNeg) I390206 := hMX.lw hM hjl390023 hw390208
            have q1hw390208 : (I390206 (w (21 + (5 * xp.toNatClampNeg + xn.toNatClampNeg))) 1).toInt = _ := hw390208.2.2.1
            have q2hw390208 : (I390206 (w (21 + (5 * xp.toNatClampNeg + xn.toNatClampNeg))) 2).toInt = _ := hw390208.2.2.2
            have q4hw390208 : (I390206 (w (21 + (5 * xp.toNatClampNeg + xn.toNatClampNeg))) 4).toInt = _ := congrArg Int32.toInt hw390208.f4
            have l1hw390208 : (I390206 (w (21 + (5 * xp.toNatClampNeg + n390015))) 1).toInt = _ := congrArg Int32.toInt (hw390208.other hM hjl390023 hjn390015 (f := 1) (by omega))
            have l2hw390208 : (I390206 (w (21 + (5 * xp.toNatClampNeg + n390015))) 2).toInt = _ := congrArg Int32.toInt (hw390208.other hM hjl390023 hjn390015 (f := 2) (by omega))
            have l3hw390208 : (I390206 (w (21 + (5 * xp.toNatClampNeg + n390015))) 3).toInt = _ := congrArg Int32.toInt (hw390208.other hM hjl390023 hjn390015 (f := 3) (by omega))
            have el390209 : J390206 (w 4) xp.toNatClampNeg = nI n390015 := by rw [hw390208.2.1 _ (hM.ne (i := 4) (by omega) (by omega) (by omega))]; exact (by exact eln390015)
            obtain ⟨sg390210, esg390210⟩ : ∃ z, z = oFr σ (5 * xp.toNatClampNeg + xn.toNatClampNeg) x390204 := ⟨_, rfl⟩
            have hMR : MR w I390206 J390206 sg390210 := by rw [esg390210]; exact hMRn
            have hsg : sg390024_73 = sg390210 := by rw [esg390024_73, oAg, if_neg (by have k9 := c390201; simp only [sx390198, sx390200] at k9; exact k9)]; simp only [esg390210, sx390204]
            exact hJN73 _ _ _ _ _ ⟨hMX, by omega, by omega, by omega, by omega, by omega⟩ (by exact el390209) hR hMD hMU (by rw [hsg]; exact hMR) hP hD hS (lv_sub hl [2, 3, 4, 1, 0] rfl)
      · have kc390012 : x390011.toInt = xn.toInt := by have h9 := c390012; rw [xk_eq] at h9; exact h9
        refine lv_iconst (v := (-1)) hx hb dX7_follow_27 (by decide) ?_
        exact W.iret (v := (-1)) hx hb hr (fun t ht hW => ⟨⟨(-1), (I, J), rfl, ⟨⟨hML.mono (by omega), hMD, hMU⟩, by have e9 : qFo σ xn xp = (σ, (-1)) := (by rw [qFo, if_neg (by have k9 := c390003; simp only [hir390001] at k9; exact k9), if_neg (by have k9 := c390007; simp only [hir390005] at k9; exact k9), if_pos (by have k9 := c390012; simp only [sx390011] at k9; exact k9)]); show MR w I J _; rw [e9]; exact hMR, by have e9 : qFo σ xn xp = (σ, (-1)) := (by rw [qFo, if_neg (by have k9 := c390003; simp only [hir390001] at k9; exact k9), if_neg (by have k9 := c390007; simp only [hir390005] at k9; exact k9), if_pos (by have k9 := c390012; simp only [sx390011] at k9; exact k9)]); show _ = _; rw [e9]⟩, by rw [ht]; exact hP, va_K.moved hW.alike hK, hD⟩, hS.F ht⟩) hS.2.2 dX7_follow_28
