set_option maxHeartbeats 4000000 in
set_option maxRecDepth 100000 in
/-- create, exactly -/
theorem g_X5_create (l : Launch) (dC : Nat → ClassId) (dI : Nat → Nat → Nat) (cy : Nat → ClassId) (v : Nat → Nat) (L : List Nat) (K N : Nat → Nat) (T : Nat → Nat → Nat) (I : Nat → Nat → Int32) (Q : Nat → Nat → Option Nat) (J : Nat → Nat → Int32) (sz : Nat) (pa ra : Nat → Nat) (kx : Nat → Prop) (σ : SG) (E : Int) (xp xr xm : Int32) (hE : REP v pa ra L K N T I Q J kx σ) (hkx : kx = kxo σ) (hSK : SK σ) (hLA : LA E σ) (hE9 : E < 1900) (hB : B5 (σ.1 0 0)) : Met l yX5_create wsX5_create ({ frames := 3, cells := 12, slots := 346, locals := 67 }) (va_Pc [.ref (v 0), .int xp, .int xr, .int xm] (pW dC dI cy L (pF cy K N T I Q J) sz)) (va_Qi (fun (r : Int32) (d : List Nat × (Nat → Nat) × (Nat → Nat → Nat) × (Nat → Nat → Int32) × (Nat → Nat → Option Nat) × (Nat → Nat → Int32)) => (∃ pa2 ra2 : Nat → Nat, REP v pa2 ra2 d.1 d.2.1 N d.2.2.1 d.2.2.2.1 d.2.2.2.2.1 d.2.2.2.2.2 (kxo (qCe σ xp xr xm).1) (qCe σ xp xr xm).1) ∧ r = (qCe σ xp xr xm).2) (fun (d : List Nat × (Nat → Nat) × (Nat → Nat → Nat) × (Nat → Nat → Int32) × (Nat → Nat → Option Nat) × (Nat → Nat → Int32)) t => va_P (dC, dI) vwCl (va_pl d.1 (pF cy d.2.1 N d.2.2.1 d.2.2.2.1 d.2.2.2.2.1 d.2.2.2.2.2)) t.heap ∧ va_K (dC, dI) vwCl (pTy cy) t ∧ va_D (va_A (va_pl L (pF cy K N T I Q J)) sz) (va_pl d.1 (pF cy d.2.1 N d.2.2.1 d.2.2.2.1 d.2.2.2.2.1 d.2.2.2.2.2))) (va_A (va_pl L (pF cy K N T I Q J)) sz)) 12 346 (va_A (va_pl L (pF cy K N T I Q J)) sz) := by
  refine Met.ofW (cc := cX5_create) (maxL := 6) (ret := (some .int)) (by decide) rfl ?_
  intro p e s m args below meth c s₁ B hml hv
  obtain ⟨rfl, hsz, ⟨hP, hK, hN⟩, hD0⟩ := hv
  have hx := B.exec
  have hb := B.bytes
  have hr := B.returns
  have hts := atoms_spec (ws := wsX5_create) B.pre
  have hown : s.vm.findClass RX5 = some m.cls := findClass_of_methodNamed B.named
  have hlocks := B.notSynchronized
  have hi5 : ∀ w ∈ wsX50, w ∈ wsX5_create := by decide +kernel
  have hi2 : ∀ w ∈ wsX20, w ∈ wsX5_create := by decide +kernel
  have hl := lv_entry ([.ref (v 0), .int xp, .int xr, .int xm]) (n := 6) (Nat.le_of_ble_eq_true rfl)
  rw [lg_entry_eq]
  generalize (lg_sl ([.ref (v 0), .int xp, .int xr, .int xm]) ++ List.replicate (6 - (lg_sl ([.ref (v 0), .int xp, .int xr, .int xm])).length) Slot.unset).toArray = ls at hl ⊢
  have hl : lv_has ls 6 [(0, .ref (v 0)), (1, .int xp), (2, .int xr), (3, .int xm)] := hl
  subst hsz
  have hD := hD0.self (sz := s.heap.size)
  generalize hAe : va_A (va_pl L (pF cy K N T I Q J)) s.heap.size = A at hD ⊢
  have hA : ∀ q : Nat, s.heap.size ≤ q → A q := fun q h => by rw [← hAe]; exact Or.inr h
  have hS : va_S A s.heap s.heap [] := va_S.rf
  have hR : RS v I Q J I Q J := RS.rf
  have hn28 := hN.1
  have hn30 := hN.2.1
  have hn37 := hN.2.2.1
  have hC := hE.ct
  subst hkx
  refine lv_iload_n hx hb dX5_create_0 rfl (lv_at hl 2 rfl) ?_
  refine lv_bipush (v := 31) hx hb dX5_create_1 (by decide) ?_
  refine lv_iand hx hb dX5_create_3 ?_
  refine lv_topi (fun v700096 ev700096 => ?_)
  refine lv_istore (lv' := [(4, .int v700096), (0, .ref (v 0)), (1, .int xp), (2, .int xr), (3, .int xm)]) hx hb dX5_create_4 hl (by decide) rfl (fun ls hl => ?_)
  refine lv_iload_n hx hb dX5_create_6 rfl (lv_at hl 2 rfl) ?_
  refine lv_if_lt (tgt := 24) hx hb dX5_create_7 (by decide) (fun c700097 => ?_) (fun c700097 => ?_)
  · have kc700097 : xp.toInt < 0 := by have h9 := c700097; rw [xk_lt, xk_0] at h9; exact h9
    refine lv_iconst (v := (-1)) hx hb dX5_create_24 (by decide) ?_
    refine W.widen (k := 12) (n := 346) (by omega) (by omega) ?_
    have e9 : qCe σ xp xr xm = (σ, (-1)) := by unfold qCe; rw [if_pos (sp_inl_no (i := 0) (j := 3) (by decide) (by decide) (by omega))]
    exact W.iret (v := (-1)) hx hb hr (fun t ht hW => ⟨⟨(-1), (L, K, T, I, Q, J), rfl, ⟨by show ∃ pa2 ra2 : Nat → Nat, REP v pa2 ra2 L K N T I Q J (kxo (qCe σ xp xr xm).1) (qCe σ xp xr xm).1; rw [e9]; exact ⟨pa, ra, hE⟩, by show _ = _; rw [e9]⟩, by rw [ht]; exact hP, va_K.moved hW.alike hK, hD⟩, hS.F ht⟩) hS.2.2 dX5_create_25
  · have kc700097 : ¬ (xp.toInt < 0) := by have h9 := c700097; rw [xk_lt, xk_0] at h9; exact h9
    refine lv_iload_n hx hb dX5_create_10 rfl (lv_at hl 2 rfl) ?_
    refine lv_iconst (v := 4) hx hb dX5_create_11 (by decide) ?_
    refine lv_icmp_ge (tgt := 24) hx hb dX5_create_12 (by decide) (fun c700098 => ?_) (fun c700098 => ?_)
    · have kc700098 : 4 ≤ xp.toInt := by have h9 := c700098; rw [xk_le, xk_4] at h9; exact h9
      refine lv_iconst (v := (-1)) hx hb dX5_create_24 (by decide) ?_
      refine W.widen (k := 12) (n := 346) (by omega) (by omega) ?_
      have e9 : qCe σ xp xr xm = (σ, (-1)) := by unfold qCe; rw [if_pos (sp_inl_no (i := 0) (j := 3) (by decide) (by decide) (by omega))]
      exact W.iret (v := (-1)) hx hb hr (fun t ht hW => ⟨⟨(-1), (L, K, T, I, Q, J), rfl, ⟨by show ∃ pa2 ra2 : Nat → Nat, REP v pa2 ra2 L K N T I Q J (kxo (qCe σ xp xr xm).1) (qCe σ xp xr xm).1; rw [e9]; exact ⟨pa, ra, hE⟩, by show _ = _; rw [e9]⟩, by rw [ht]; exact hP, va_K.moved hW.alike hK, hD⟩, hS.F ht⟩) hS.2.2 dX5_create_25
    · have kc700098 : ¬ (4 ≤ xp.toInt) := by have h9 := c700098; rw [xk_le, xk_4] at h9; exact h9
      refine lv_aload_n hx hb dX5_create_15 rfl (lv_at hl 1 rfl) ?_
      obtain ⟨j700099, hj700099⟩ := pG_5 (cy := cy) (N := N) (T := T) (I := I) (Q := Q) (J := J) (hC.at 0 (by decide)) (hC.k 0 (by decide) rfl)
      refine va_get (D := (dC, dI)) (ci := 5) (v := .ref (T (v 0) 0)) (C := RX5) (T := TX5) (N := 6) hx hb hts hi5 hown hK hP j700099 hj700099 rfl 0 (by decide) (hts (.fieldLink RX5 11 "TallyLogs" "partitions" "[LTallyLogs$Partition;") (by decide +kernel)) (fun _ h9 => h9) rfl dX5_create_16 ?_
      refine W.eq (g2 := F0 m 19 ls [.ref (v 1)]) (by rw [hC.1.2.2.1.1]) ?_
      refine lv_iload_n hx hb dX5_create_19 rfl (lv_at hl 2 rfl) ?_
      have hin700101 : vp_in xp 4 := xin_of (by have kc700097 := c700097; have kc700098 := c700098; simp only [xk_lt, xk_le, xk_0, xk_1, xk_2, xk_3, xk_4, xk_5, xk_6, xk_7, xk_8, xk_50] at kc700097 kc700098; omega) (by have kc700097 := c700097; have kc700098 := c700098; simp only [xk_lt, xk_le, xk_0, xk_1, xk_2, xk_3, xk_4, xk_5, xk_6, xk_7, xk_8, xk_50] at kc700097 kc700098; omega)
      obtain ⟨P9, hP9, eP9⟩ := vp_in_of hin700101 (by decide)
      have cP9 := nI_cl (by omega) eP9
      by_cases hth9 : σ.1 2 P9 = 0
      · have hq700102 : Q (v 1) xp.toNatClampNeg = none := by rw [cP9]; exact (hE.pt P9 hP9).1 hth9
        obtain ⟨j700103, hj700103⟩ := pG_10 (cy := cy) (N := N) (T := T) (I := I) (Q := Q) (J := J) (hC.at 1 (by decide)) (hC.k 1 (by decide) rfl)
        refine va_aldq hx hb hK hP j700103 3 hj700103 rfl hin700101 dX5_create_20 ?_
        refine W.eq (g2 := F0 m 21 ls [.null]) (by rw [hq700102]; rfl) ?_
        refine lv_ifnullN (tgt := 26) hx hb dX5_create_21 (by decide) ?_
        refine lv_iload_n hx hb dX5_create_26 rfl (lv_at hl 4 rfl) ?_
        refine lv_iconst (v := 1) hx hb dX5_create_27 (by decide) ?_
        refine lv_icmp_lt (tgt := 40) hx hb dX5_create_28 (by decide) (fun c700104 => ?_) (fun c700104 => ?_)
        · have kc700104 : xm.toInt < 1 := by have h9 := c700104; rw [xk_lt, xk_1] at h9; exact h9
          refine lv_iconst (v := (-1)) hx hb dX5_create_40 (by decide) ?_
          refine W.widen (k := 12) (n := 346) (by omega) (by omega) ?_
          have e9 : qCe σ xp xr xm = (σ, (-1)) := by unfold qCe; rw [if_neg (sp_inl_yes (i := 0) (j := 3) (by decide) (by decide) (by rw [eP9, nI_toInt (by omega)]; omega)), cP9, if_neg (fun z => z hth9), if_pos (sp_inl_no (by decide : (1 : Int64).toInt = 1) (Int32.toInt_toInt64 _) (by omega))]
          exact W.iret (v := (-1)) hx hb hr (fun t ht hW => ⟨⟨(-1), (L, K, T, I, Q, J), rfl, ⟨by show ∃ pa2 ra2 : Nat → Nat, REP v pa2 ra2 L K N T I Q J (kxo (qCe σ xp xr xm).1) (qCe σ xp xr xm).1; rw [e9]; exact ⟨pa, ra, hE⟩, by show _ = _; rw [e9]⟩, by rw [ht]; exact hP, va_K.moved hW.alike hK, hD⟩, hS.F ht⟩) hS.2.2 dX5_create_41
        · have kc700104 : ¬ (xm.toInt < 1) := by have h9 := c700104; rw [xk_lt, xk_1] at h9; exact h9
          refine lv_iload_n hx hb dX5_create_31 rfl (lv_at hl 4 rfl) ?_
          refine lv_iload hx hb dX5_create_32 (lv_at hl 0 rfl) ?_
          refine vp_callSi (W.runS (As := [.int v700096]) (rest := [.int xm]) ⟨hx, hb, hml, hown, hts⟩ (c_J6_bitCount_0f7a4 l v700096) (va_cwS 1 hts gX5_create_J6_bitCount_0f7a4 rfl rfl rfl (by decide +kernel) ⟨Nat.le_of_ble_eq_true rfl, Nat.le_of_ble_eq_true rfl⟩) preEq rfl rfl hl.1 rfl (lv_room (Nat.le_of_ble_eq_true rfl)) dX5_create_34 ⟨Nat.le_of_ble_eq_true rfl, Nat.le_of_ble_eq_true rfl⟩) (fun r700105 hr700105 => ?_)
          refine lv_icmp_le (tgt := 42) hx hb dX5_create_37 (by decide) (fun c700106 => ?_) (fun c700106 => ?_)
          · have kc700106 : xm.toInt ≤ r700105.toInt := by have h9 := c700106; rw [xk_le] at h9; exact h9
            refine lv_iload hx hb dX5_create_42 (lv_at hl 0 rfl) ?_
            refine lv_aload_n hx hb dX5_create_44 rfl (lv_at hl 1 rfl) ?_
            obtain ⟨j700107, hj700107⟩ := pG_5 (cy := cy) (N := N) (T := T) (I := I) (Q := Q) (J := J) (hC.at 0 (by decide)) (hC.k 0 (by decide) rfl)
            refine va_get (D := (dC, dI)) (ci := 5) (v := .int (I (v 0) 3)) (C := RX5) (T := TX5) (N := 6) hx hb hts hi5 hown hK hP j700107 hj700107 rfl 3 (by decide) (hts (.fieldLink RX5 27 "TallyLogs" "up" "I") (by decide +kernel)) (fun _ h9 => h9) rfl dX5_create_45 ?_
            refine lv_topi (fun x700108 ex700108 => ?_)
            have sx700108 : x700108 = σ.1 0 0 := ex700108.trans hE.up
            refine lv_iand hx hb dX5_create_48 ?_
            refine lv_topi (fun v700109 ev700109 => ?_)
            refine lv_if_ne (tgt := 55) hx hb dX5_create_49 (by decide) (fun c700110 => ?_) (fun c700110 => ?_)
            · have kc700110 : ¬ (v700109.toInt = 0) := by have h9 := c700110; rw [xk_eq, xk_0] at h9; exact h9
              refine va_new (ci := 2) (fs := [.int 0, .int 0, .null, .int 0, .int 0, .int 0]) (C := RX2) (T := TX2) (N := 6) hx hb hts hi2 tyX2 tyX2_ok hown (hts (.classLink RX5 9 RX2) (by decide +kernel)) (hts (.instantiable RX2 6) (by decide +kernel)) (hts (.initialized RX2) (by decide +kernel)) hK hP hD hS hA rfl (fun j hj => by rcases (show j = 0 ∨ j = 1 ∨ j = 2 ∨ j = 3 ∨ j = 4 ∨ j = 5 by omega) with rfl | rfl | rfl | rfl | rfl | rfl <;> rfl) (Nat.le_of_ble_eq_true rfl) (Nat.le_of_ble_eq_true rfl) dX5_create_55 (fun q700111 H hP hD hS => ?_)
              refine W.widen (k := 1) (n := 6) (by omega) (by omega) ?_
              have hP := va_P.swap (a := []) hP
              have hD := va_D.swap (a := []) hD
              have hP : va_P (dC, dI) vwCl ((q700111, .inr (2, [.int 0, .int 0, .null, .int 0, .int 0, .int 0])) :: va_pl L (pF cy K N T I Q J)) H := hP
              have hD : va_D A ((q700111, .inr (2, [.int 0, .int 0, .null, .int 0, .int 0, .int 0])) :: va_pl L (pF cy K N T I Q J)) := hD
              refine lv_dup hx hb dX5_create_58 rfl ?_
              refine lv_iload hx hb dX5_create_59 (lv_at hl 0 rfl) ?_
              refine lv_iload hx hb dX5_create_61 (lv_at hl 0 rfl) ?_
              refine lv_aload_n hx hb dX5_create_63 rfl (lv_at hl 1 rfl) ?_
              obtain ⟨j700112, hj700112⟩ := pG_5 (cy := cy) (N := N) (T := T) (I := I) (Q := Q) (J := J) (hC.at 0 (by decide)) (hC.k 0 (by decide) rfl)
              obtain ⟨j700113, hj700113⟩ := xcons_at (x := (q700111, .inr (2, [.int 0, .int 0, .null, .int 0, .int 0, .int 0]))) hj700112
              refine va_get (D := (dC, dI)) (ci := 5) (v := .int (I (v 0) 3)) (C := RX5) (T := TX5) (N := 6) hx hb hts hi5 hown hK hP j700113 hj700113 rfl 3 (by decide) (hts (.fieldLink RX5 27 "TallyLogs" "up" "I") (by decide +kernel)) (fun _ h9 => h9) rfl dX5_create_64 ?_
              refine lv_topi (fun x700114 ex700114 => ?_)
              have sx700114 : x700114 = σ.1 0 0 := ex700114.trans hE.up
              refine lv_iand hx hb dX5_create_67 ?_
              refine lv_topi (fun v700115 ev700115 => ?_)
              refine lv_iload_n hx hb dX5_create_68 rfl (lv_at hl 4 rfl) ?_
              refine lv_aload_n hx hb dX5_create_69 rfl (lv_at hl 1 rfl) ?_
              obtain ⟨j700116, hj700116⟩ := pG_5 (cy := cy) (N := N) (T := T) (I := I) (Q := Q) (J := J) (hC.at 0 (by decide)) (hC.k 0 (by decide) rfl)
              obtain ⟨j700117, hj700117⟩ := xcons_at (x := (q700111, .inr (2, [.int 0, .int 0, .null, .int 0, .int 0, .int 0]))) hj700116
              refine va_get (D := (dC, dI)) (ci := 5) (v := .int (I (v 0) 4)) (C := RX5) (T := TX5) (N := 6) hx hb hts hi5 hown hK hP j700117 hj700117 rfl 4 (by decide) (hts (.fieldLink RX5 31 "TallyLogs" "now" "I") (by decide +kernel)) (fun _ h9 => h9) rfl dX5_create_70 ?_
              refine lv_topi (fun x700118 ex700118 => ?_)
              have sx700118 : x700118 = σ.1 0 1 := ex700118.trans hE.nw
              have hFc := pfree hD hS hA
              refine va_callv (va_runI (As := [.int v700096, .int v700115, .int xm, .int x700118]) (rest := [.ref q700111]) ⟨hx, hb, hml, hown, hts⟩ (g_X2_init l dC dI cy v L K N T I Q J H.size q700111 v700096 v700115 xm x700118 hC) (cwI 4 hts gX5_create_X2_init rfl rfl rfl (hts (.initialized RX2) (by decide +kernel)) (hts (.methodLink RX5 48 yX2_init) (by decide +kernel)) (hts (.instanceMethod yX2_init) (by decide +kernel)) rfl (by decide +kernel) ⟨Nat.le_of_ble_eq_true rfl, Nat.le_of_ble_eq_true rfl⟩) ⟨pw1_blind, fun U hU hW => ⟨rfl, pw1_pre hP hK hN hD hU hW⟩⟩ rfl rfl hl.1 rfl (lv_room (Nat.le_of_ble_eq_true rfl)) dX5_create_73 ⟨Nat.le_of_ble_eq_true rfl, Nat.le_of_ble_eq_true rfl⟩) hS (fun q _ h => hFc q h) hFc (fun d9 t H1 locs ht hvm hw hB hz1 hk1 hS => ?_)
              obtain ⟨L, K, T, I700119, Q700119, J700119⟩ := d9
              obtain ⟨c9, hXB⟩ := hw
              have hXB : XB v N _ _ _ I Q J v700096 v700115 xm x700118 q700111 5 c9 L K T I700119 Q700119 J700119 := hXB
              have hC := hXB.ct
              obtain ⟨hP, hK1, hD1⟩ := hB
              rw [ht] at hP
              have hD := hD1.weaken (fun _ _ _ h => hFc _ h)
              generalize H1 = H at hP hS ⊢
              have hP : va_P (dC, dI) vwCl (va_pl L (pF cy K N T I700119 Q700119 J700119)) H := hP
              have hD : va_D A (va_pl L (pF cy K N T I700119 Q700119 J700119)) := hD
              have hR : RS v I700119 Q700119 J700119 I700119 Q700119 J700119 := RS.rf
              have hC : CT v L K N T I700119 Q700119 := hC
              refine W.widen (k := 12) (n := 346) (by omega) (by omega) ?_
              refine lv_astore (lv' := [(5, .ref q700111), (4, .int v700096), (0, .ref (v 0)), (1, .int xp), (2, .int xr), (3, .int xm)]) hx hb dX5_create_76 hl (by decide) rfl (fun ls hl => ?_)
              refine lv_aload_n hx hb dX5_create_78 rfl (lv_at hl 2 rfl) ?_
              obtain ⟨j700120, hj700120⟩ := pG_5 (cy := cy) (N := N) (T := T) (I := I700119) (Q := Q700119) (J := J700119) (hC.at 0 (by decide)) (hC.k 0 (by decide) rfl)
              refine va_get (D := (dC, dI)) (ci := 5) (v := .ref (T (v 0) 0)) (C := RX5) (T := TX5) (N := 6) hx hb hts hi5 hown hK hP j700120 hj700120 rfl 0 (by decide) (hts (.fieldLink RX5 11 "TallyLogs" "partitions" "[LTallyLogs$Partition;") (by decide +kernel)) (fun _ h9 => h9) rfl dX5_create_79 ?_
              refine W.eq (g2 := F0 m 82 ls [.ref (v 1)]) (by rw [hC.1.2.2.1.1]) ?_
              refine lv_iload_n hx hb dX5_create_82 rfl (lv_at hl 3 rfl) ?_
              refine lv_aload hx hb dX5_create_83 (lv_at hl 0 rfl) ?_
              obtain ⟨j700122, hj700122⟩ := pG_10 (cy := cy) (N := N) (T := T) (I := I700119) (Q := Q700119) (J := J700119) (hC.at 1 (by decide)) (hC.k 1 (by decide) rfl)
              have hDo := hD
              obtain ⟨j700123, hj700123⟩ := pG_2 (cy := cy) (N := N) (T := T) (I := I700119) (Q := Q700119) (J := J700119) hXB.2.2.2.2.1.1.1 hXB.2.2.2.2.1.1.2
              refine va_astq hx hb hK hP hD hS j700122 3 j700123 2 hj700122 rfl hj700123 rfl hin700101 dX5_create_85 (fun H locs hP hD hS => ?_)
              have hP := Eq.mp (congrArg (fun w => va_P (dC, dI) vwCl w H) (pS_10 (x := (some q700111)) hDo (hC.at 1 (by decide)) (hC.k 1 (by decide) rfl) hj700122)) hP
              obtain ⟨Q700124, eQ700124⟩ : ∃ z, z = p2 Q700119 (v 1) (xp.toNatClampNeg) (some q700111) := ⟨_, rfl⟩
              rw [← eQ700124] at hP
              have hR : RS v I700119 Q700124 J700119 I700119 Q700124 J700119 := RS.rf
              have hC : CT v L K N T I700119 Q700124 := by rw [eQ700124]; exact hC.q10 (fun b hb => by cases hb; exact ⟨hXB.2.2.2.2.1.1.1, hXB.2.2.2.2.1.1.2⟩)
              have hD : va_D A (va_pl L (pF cy K N T I700119 Q700124 J700119)) := pD hDo
              obtain ⟨sg700126, esg700126⟩ : ∃ z, z = oCe σ P9 v700096 xm := ⟨_, rfl⟩
              have hnz : ¬ v700096 &&& σ.1 0 0 = 0 := fun z => c700110 (by rw [ev700109, sx700108]; exact z)
              have hXB9 := hXB
              rw [ev700115, sx700114, sx700118] at hXB9
              have hE : ∃ pa2 ra2, REP v pa2 ra2 L K N T I700119 Q700124 J700119 (kxo sg700126) sg700126 := ⟨_, _, by rw [esg700126, eQ700124, cP9]; exact hE.ce hSK hB hP9 hth9 hnz hXB9 (by rw [eQ700124, cP9] at hC; exact hC)⟩
              refine lv_aload hx hb dX5_create_86 (lv_at hl 0 rfl) ?_
              obtain ⟨j700127, hj700127⟩ := pG_2 (cy := cy) (N := N) (T := T) (I := I700119) (Q := Q700124) (J := J700119) hXB.2.2.2.2.1.1.1 hXB.2.2.2.2.1.1.2
              refine va_get (D := (dC, dI)) (ci := 2) (v := .int (I700119 q700111 3)) (C := RX2) (T := TX2) (N := 6) hx hb hts hi2 hown hK hP j700127 hj700127 rfl 3 (by decide) (hts (.fieldLink RX5 51 "TallyLogs$Partition" "leader" "I") (by decide +kernel)) (fun _ h9 => h9) rfl dX5_create_88 ?_
              refine lv_topi (fun x700128 ex700128 => ?_)
              have hxv : sp_nz ((xr &&& 31) &&& σ.1 0 0) = x700128 := by rw [ex700128, hXB.2.2.2.2.2.1.2.2.1, ev700115, sx700114, ← ev700096]; exact (B5.lo (B5.and' hB) hnz).symm
              refine W.widen (k := 12) (n := 346) (by omega) (by omega) ?_
              have e9 : qCe σ xp xr xm = (sg700126, x700128) := by have hb9 : r700105.toInt = (sp_bc (xr &&& 31)).toInt := (by rw [hr700105, ev700096]); unfold qCe; rw [if_neg (sp_inl_yes (i := 0) (j := 3) (by decide) (by decide) (by rw [eP9, nI_toInt (by omega)]; omega)), cP9, if_neg (fun z => z hth9), if_neg (sp_inl_yes (by decide : (1 : Int64).toInt = 1) (Int32.toInt_toInt64 _) (by omega)), if_neg (fun z => c700110 (by rw [ev700109, sx700108, ev700096]; exact z))]; rw [esg700126, ev700096]; unfold oCe; rw [hxv]
              exact W.iret (v := x700128) hx hb hr (fun t ht hW => ⟨⟨x700128, (L, K, T, I700119, Q700124, J700119), rfl, ⟨by show ∃ pa2 ra2 : Nat → Nat, REP v pa2 ra2 L K N T I700119 Q700124 J700119 (kxo (qCe σ xp xr xm).1) (qCe σ xp xr xm).1; rw [e9]; exact hE, by show _ = _; rw [e9]⟩, by rw [ht]; exact hP, va_K.moved hW.alike hK, hD⟩, hS.F ht⟩) hS.2.2 dX5_create_91
            · have kc700110 : v700109.toInt = 0 := by have h9 := c700110; rw [xk_eq, xk_0] at h9; exact h9
              refine lv_bipush (v := (-2)) hx hb dX5_create_52 (by decide) ?_
              refine W.widen (k := 12) (n := 346) (by omega) (by omega) ?_
              have e9 : qCe σ xp xr xm = (σ, (-2)) := by have hb9 : r700105.toInt = (sp_bc (xr &&& 31)).toInt := (by rw [hr700105, ev700096]); unfold qCe; rw [if_neg (sp_inl_yes (i := 0) (j := 3) (by decide) (by decide) (by rw [eP9, nI_toInt (by omega)]; omega)), cP9, if_neg (fun z => z hth9), if_neg (sp_inl_yes (by decide : (1 : Int64).toInt = 1) (Int32.toInt_toInt64 _) (by omega)), if_pos (by rw [← ev700096, ← sx700108, ← ev700109]; exact c700110)]
              exact W.iret (v := (-2)) hx hb hr (fun t ht hW => ⟨⟨(-2), (L, K, T, I, Q, J), rfl, ⟨by show ∃ pa2 ra2 : Nat → Nat, REP v pa2 ra2 L K N T I Q J (kxo (qCe σ xp xr xm).1) (qCe σ xp xr xm).1; rw [e9]; exact ⟨pa, ra, hE⟩, by show _ = _; rw [e9]⟩, by rw [ht]; exact hP, va_K.moved hW.alike hK, hD⟩, hS.F ht⟩) hS.2.2 dX5_create_54
          · have kc700106 : ¬ (xm.toInt ≤ r700105.toInt) := by have h9 := c700106; rw [xk_le] at h9; exact h9
            refine lv_iconst (v := (-1)) hx hb dX5_create_40 (by decide) ?_
            refine W.widen (k := 12) (n := 346) (by omega) (by omega) ?_
            have e9 : qCe σ xp xr xm = (σ, (-1)) := by have hb9 : r700105.toInt = (sp_bc (xr &&& 31)).toInt := (by rw [hr700105, ev700096]); unfold qCe; rw [if_neg (sp_inl_yes (i := 0) (j := 3) (by decide) (by decide) (by rw [eP9, nI_toInt (by omega)]; omega)), cP9, if_neg (fun z => z hth9), if_pos (sp_inl_no (by decide : (1 : Int64).toInt = 1) (Int32.toInt_toInt64 _) (by omega))]
            exact W.iret (v := (-1)) hx hb hr (fun t ht hW => ⟨⟨(-1), (L, K, T, I, Q, J), rfl, ⟨by show ∃ pa2 ra2 : Nat → Nat, REP v pa2 ra2 L K N T I Q J (kxo (qCe σ xp xr xm).1) (qCe σ xp xr xm).1; rw [e9]; exact ⟨pa, ra, hE⟩, by show _ = _; rw [e9]⟩, by rw [ht]; exact hP, va_K.moved hW.alike hK, hD⟩, hS.F ht⟩) hS.2.2 dX5_create_41
      · have hq700102 : Q (v 1) xp.toNatClampNeg = some (pa P9) := by rw [cP9]; exact hE.pq hP9 hth9
        obtain ⟨j700129, hj700129⟩ := pG_10 (cy := cy) (N := N) (T := T) (I := I) (Q := Q) (J := J) (hC.at 1 (by decide)) (hC.k 1 (by decide) rfl)
        refine va_aldq hx hb hK hP j700129 3 hj700129 rfl hin700101 dX5_create_20 ?_
        refine W.eq (g2 := F0 m 21 ls [.ref (pa P9)]) (by rw [hq700102]; rfl) ?_
        refine lv_ifnull hx hb dX5_create_21 ?_
        refine lv_iconst (v := (-1)) hx hb dX5_create_24 (by decide) ?_
        refine W.widen (k := 12) (n := 346) (by omega) (by omega) ?_
        have e9 : qCe σ xp xr xm = (σ, (-1)) := by unfold qCe; rw [if_neg (sp_inl_yes (i := 0) (j := 3) (by decide) (by decide) (by rw [eP9, nI_toInt (by omega)]; omega)), cP9, if_pos hth9]
        exact W.iret (v := (-1)) hx hb hr (fun t ht hW => ⟨⟨(-1), (L, K, T, I, Q, J), rfl, ⟨by show ∃ pa2 ra2 : Nat → Nat, REP v pa2 ra2 L K N T I Q J (kxo (qCe σ xp xr xm).1) (qCe σ xp xr xm).1; rw [e9]; exact ⟨pa, ra, hE⟩, by show _ = _; rw [e9]⟩, by rw [ht]; exact hP, va_K.moved hW.alike hK, hD⟩, hS.F ht⟩) hS.2.2 dX5_create_25
