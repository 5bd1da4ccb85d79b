section XK
variable {u : Int32} {σ σ' : SG} {p j k : Nat} {E : Int}
theorem oS1_0 (h : ¬ bt (σ.1 10 k) p) : oS1 σ k p = σ := if_pos (bit_n1 h)
theorem oS1_n (h : σ.1 2 p = 0) (hi : PI u σ p) : oS1 σ k p = σ := by
  unfold oS1
  by_cases h1 : (σ.1 10 k >>> (nI p &&& 31)) &&& 1 = 0
  · rw [if_pos h1]
  · rw [if_neg h1]
    have ho : oOw σ p = none := by unfold oOw; rw [if_pos (hi.1 h).1]
    rw [ho]
theorem oS1_mk0 (hb : bt (σ.1 10 k) p) (h : (oMk σ p k).2 = 0) : oS1 σ k p = (oMk σ p k).1 := by
  unfold oS1
  rw [if_neg (bt_isr.mpr hb)]
  cases ho : oOw σ p with
  | none => rw [oMk_no ho]
  | some j =>
    rw [oMk_s ho] at h ⊢
    show (if _ then _ else _ : SG) = _
    by_cases q : σ.2.1 j 2 - σ.2.1 j 1 < 60
    · rw [if_pos q] at h; exact absurd (show (1 : Int32) = 0 from h) (by decide)
    · rw [if_neg q, if_neg q]
theorem oMk_10 : (oMk σ p k).1.1 = σ.1 := by
  cases ho : oOw σ p with
  | none => rw [oMk_no ho]
  | some j =>
    rw [oMk_s ho]
    by_cases q : σ.2.1 j 2 - σ.2.1 j 1 < 60
    · rw [if_pos q]; show (oRi _ p).1 = _; rw [oRi_1]; rfl
    · rw [if_neg q]
theorem oS1_mk1 (hb : bt (σ.1 10 k) p) (h : ¬ (oMk σ p k).2 = 0) : oS1 σ k p = sA (oMk σ p k).1 10 k (σ.1 10 k &&& ((1 <<< (nI p &&& 31)) ^^^ (-1))) := by
  unfold oS1
  rw [if_neg (bt_isr.mpr hb)]
  cases ho : oOw σ p with
  | none => rw [oMk_no ho] at h; exact absurd rfl h
  | some j =>
    rw [oMk_s ho] at h ⊢
    show (if _ then _ else _ : SG) = _
    by_cases q : σ.2.1 j 2 - σ.2.1 j 1 < 60
    · rw [if_pos q, if_pos q, oRi_sA10]
    · rw [if_neg q] at h; exact absurd rfl h
end XK
set_option maxHeartbeats 4000000 in
set_option maxRecDepth 100000 in
/-- markEnd of null, exactly -/
theorem g_X5_markEnd0 (l : Launch) (dC : Nat → ClassId) (dI : Nat → Nat → Nat) (cy : Nat → ClassId) (v : Nat → Nat) (L : List Nat) (K N : Nat → Nat) (T : Nat → Nat → Nat) (I : Nat → Nat → Int32) (Q : Nat → Nat → Option Nat) (J : Nat → Nat → Int32) (sz : Nat) (pa ra : Nat → Nat) (kx : Nat → Prop) (σ : SG) (jk : Nat) (hE : REP v pa ra L K N T I Q J kx σ) (hjk : jk < 6) : Met l yX5_markEnd wsX5_markEnd ({ frames := 3, cells := 1, slots := 8, locals := 66 }) (va_Pc [.null, .ref (v (4 + jk))] (pW dC dI cy L (pF cy K N T I Q J) sz)) (va_Qi (fun (r : Int32) (d : List Nat × (Nat → Nat) × (Nat → Nat → Nat) × (Nat → Nat → Int32) × (Nat → Nat → Option Nat) × (Nat → Nat → Int32)) => (REP v pa ra d.1 d.2.1 N d.2.2.1 d.2.2.2.1 d.2.2.2.2.1 d.2.2.2.2.2 kx (σ)) ∧ r = 0) (fun (d : List Nat × (Nat → Nat) × (Nat → Nat → Nat) × (Nat → Nat → Int32) × (Nat → Nat → Option Nat) × (Nat → Nat → Int32)) t => va_P (dC, dI) vwCl (va_pl d.1 (pF cy d.2.1 N d.2.2.1 d.2.2.2.1 d.2.2.2.2.1 d.2.2.2.2.2)) t.heap ∧ va_K (dC, dI) vwCl (pTy cy) t ∧ va_D (va_A (va_pl L (pF cy K N T I Q J)) sz) (va_pl d.1 (pF cy d.2.1 N d.2.2.1 d.2.2.2.1 d.2.2.2.2.1 d.2.2.2.2.2))) (va_A (va_pl L (pF cy K N T I Q J)) sz)) 1 8 (va_A (va_pl L (pF cy K N T I Q J)) sz) := by
  refine Met.ofW (cc := cX5_markEnd) (maxL := 3) (ret := (some .boolean)) (by decide) rfl ?_
  intro p e s m args below meth c s₁ B hml hv
  obtain ⟨rfl, hsz, ⟨hP, hK, hN⟩, hD0⟩ := hv
  have hx := B.exec
  have hb := B.bytes
  have hr := B.returns
  have hts := atoms_spec (ws := wsX5_markEnd) B.pre
  have hown : s.vm.findClass RX5 = some m.cls := findClass_of_methodNamed B.named
  have hlocks := B.notSynchronized
  have hi0 : ∀ w ∈ wsX00, w ∈ wsX5_markEnd := by decide +kernel
  have hi2 : ∀ w ∈ wsX20, w ∈ wsX5_markEnd := by decide +kernel
  have hi3 : ∀ w ∈ wsX30, w ∈ wsX5_markEnd := by decide +kernel
  have hi4 : ∀ w ∈ wsX40, w ∈ wsX5_markEnd := by decide +kernel
  have hl := lv_entry ([.null, .ref (v (4 + jk))]) (n := 3) (Nat.le_of_ble_eq_true rfl)
  rw [lg_entry_eq]
  generalize (lg_sl ([.null, .ref (v (4 + jk))]) ++ List.replicate (3 - (lg_sl ([.null, .ref (v (4 + jk))])).length) Slot.unset).toArray = ls at hl ⊢
  have hl : lv_has ls 3 [(0, .null), (1, .ref (v (4 + jk)))] := hl
  subst hsz
  have hD := hD0.self (sz := s.heap.size)
  generalize hAe : va_A (va_pl L (pF cy K N T I Q J)) s.heap.size = A at hD ⊢
  have hA : ∀ q : Nat, s.heap.size ≤ q → A q := fun q h => by rw [← hAe]; exact Or.inr h
  have hS : va_S A s.heap s.heap [] := va_S.rf
  have hR : RS v I Q J I Q J := RS.rf
  have hn28 := hN.1
  have hn30 := hN.2.1
  have hn37 := hN.2.2.1
  have hC := hE.ct
  refine lv_aload_nN hx hb dX5_markEnd_0 rfl (lv_at hl 0 rfl) ?_
  refine lv_ifnonnullN hx hb dX5_markEnd_1 ?_
  refine lv_iconst (v := 0) hx hb dX5_markEnd_4 (by decide) ?_
  refine W.widen (k := 1) (n := 8) (by omega) (by omega) ?_
  exact W.zret (v := 0) hx hb hr (by decide) (fun t ht hW => ⟨⟨0, (L, K, T, I, Q, J), rfl, ⟨hE, rfl⟩, by rw [ht]; exact hP, va_K.moved hW.alike hK, hD⟩, hS.F ht⟩) hS.2.2 dX5_markEnd_5
set_option maxHeartbeats 4000000 in
set_option maxRecDepth 100000 in
/-- settle, exactly -/
theorem g_X5_settle (l : Launch) (dC : Nat → ClassId) (dI : Nat → Nat → Nat) (cy : Nat → ClassId) (v : Nat → Nat) (L : List Nat) (K N : Nat → Nat) (T : Nat → Nat → Nat) (I : Nat → Nat → Int32) (Q : Nat → Nat → Option Nat) (J : Nat → Nat → Int32) (sz : Nat) (pa ra : Nat → Nat) (kx : Nat → Prop) (σ : SG) (E : Int) (xk : Int32) (hE : REP v pa ra L K N T I Q J kx σ) (hkx : kx = kxo σ) (hSK : SK σ) (hLA : LA E σ) (hE9 : E < 1900) (hB : B5 (σ.1 0 0)) : Met l yX5_settle wsX5_settle ({ frames := 4, cells := 4, slots := 32, locals := 88 }) (va_Pc [.ref (v 0), .int xk] (pW dC dI cy L (pF cy K N T I Q J) sz)) (va_Qi (fun (r : Int32) (d : List Nat × (Nat → Nat) × (Nat → Nat → Nat) × (Nat → Nat → Int32) × (Nat → Nat → Option Nat) × (Nat → Nat → Int32)) => (REP v pa ra d.1 d.2.1 N d.2.2.1 d.2.2.2.1 d.2.2.2.2.1 d.2.2.2.2.2 (kxo (qSt σ xk).1) ((qSt σ xk).1)) ∧ r = (qSt σ xk).2) (fun (d : List Nat × (Nat → Nat) × (Nat → Nat → Nat) × (Nat → Nat → Int32) × (Nat → Nat → Option Nat) × (Nat → Nat → Int32)) t => va_P (dC, dI) vwCl (va_pl d.1 (pF cy d.2.1 N d.2.2.1 d.2.2.2.1 d.2.2.2.2.1 d.2.2.2.2.2)) t.heap ∧ va_K (dC, dI) vwCl (pTy cy) t ∧ va_D (va_A (va_pl L (pF cy K N T I Q J)) sz) (va_pl d.1 (pF cy d.2.1 N d.2.2.1 d.2.2.2.1 d.2.2.2.2.1 d.2.2.2.2.2))) (va_A (va_pl L (pF cy K N T I Q J)) sz)) 4 32 (va_A (va_pl L (pF cy K N T I Q J)) sz) := by
  refine Met.ofW (cc := cX5_settle) (maxL := 4) (ret := (some .int)) (by decide) rfl ?_
  intro p e s m args below meth c s₁ B hml hv
  obtain ⟨rfl, hsz, ⟨hP, hK, hN⟩, hD0⟩ := hv
  have hx := B.exec
  have hb := B.bytes
  have hr := B.returns
  have hts := atoms_spec (ws := wsX5_settle) B.pre
  have hown : s.vm.findClass RX5 = some m.cls := findClass_of_methodNamed B.named
  have hlocks := B.notSynchronized
  have hi5 : ∀ w ∈ wsX50, w ∈ wsX5_settle := by decide +kernel
  have hi3 : ∀ w ∈ wsX30, w ∈ wsX5_settle := by decide +kernel
  have hl := lv_entry ([.ref (v 0), .int xk]) (n := 4) (Nat.le_of_ble_eq_true rfl)
  rw [lg_entry_eq]
  generalize (lg_sl ([.ref (v 0), .int xk]) ++ List.replicate (4 - (lg_sl ([.ref (v 0), .int xk])).length) Slot.unset).toArray = ls at hl ⊢
  have hl : lv_has ls 4 [(0, .ref (v 0)), (1, .int xk)] := hl
  subst hsz
  have hD := hD0.self (sz := s.heap.size)
  generalize hAe : va_A (va_pl L (pF cy K N T I Q J)) s.heap.size = A at hD ⊢
  have hA : ∀ q : Nat, s.heap.size ≤ q → A q := fun q h => by rw [← hAe]; exact Or.inr h
  have hS : va_S A s.heap s.heap [] := va_S.rf
  have hR : RS v I Q J I Q J := RS.rf
  have hn28 := hN.1
  have hn30 := hN.2.1
  have hn37 := hN.2.2.1
  have hC := hE.ct
  subst hkx
  refine lv_aload_n hx hb dX5_settle_0 rfl (lv_at hl 0 rfl) ?_
  refine lv_iload_n hx hb dX5_settle_1 rfl (lv_at hl 1 rfl) ?_
  obtain ⟨j680002, hj680002⟩ := pG_5 (cy := cy) (N := N) (T := T) (I := I) (Q := Q) (J := J) (hC.at 0 (by decide)) (hC.k 0 (by decide) rfl)
  refine va_csq (W.runV (As := [.int xk]) (rest := []) ⟨hx, hb, hml, hown, hts⟩ (c_X5_producerAt l dC dI cy v L K N T I Q J  xk hC) (cwV 1 hts gX5_settle_X5_producerAt rfl rfl rfl (by decide +kernel) ⟨Nat.le_of_ble_eq_true rfl, Nat.le_of_ble_eq_true rfl⟩) ⟨pb_blind, va_recv hK hP (ci := 5) (q0 := j680002) rfl hj680002, fun U hU hW => ⟨rfl, pb_pre hP hK hN hU hW⟩⟩ rfl rfl hl.1 rfl (lv_room (Nat.le_of_ble_eq_true rfl)) dX5_settle_2 ⟨Nat.le_of_ble_eq_true rfl, Nat.le_of_ble_eq_true rfl⟩) (fun r680001 hr680001 => ?_)
  rcases hr680001 with ⟨hn680003, rfl⟩ | ⟨j680003, hj680003, ej680003, rfl⟩
  · refine W.eq (g2 := F0 m 5 ls [.null]) rfl ?_
    refine lv_astore_nN (lv' := [(2, .null), (0, .ref (v 0)), (1, .int xk)]) hx hb dX5_settle_5 rfl hl (by decide) rfl (fun ls hl => ?_)
    refine lv_aload_nN hx hb dX5_settle_6 rfl (lv_at hl 0 rfl) ?_
    refine lv_ifnonnullN hx hb dX5_settle_7 ?_
    refine lv_iconst (v := (-1)) hx hb dX5_settle_10 (by decide) ?_
    refine W.widen (k := 4) (n := 32) (by omega) (by omega) ?_
    have e9 : qSt σ xk = (σ, (-1)) := by unfold qSt; rw [if_pos (sp_inl_no (i := 0) (j := 5) (by decide) (by decide) (by omega))]
    have hk9 : kxo σ = (kxo σ) := rfl
    exact W.iret (v := (-1)) hx hb hr (fun t ht hW => ⟨⟨(-1), (L, K, T, I, Q, J), rfl, ⟨by show REP v pa ra L K N T I Q J (kxo (qSt σ xk).1) (qSt σ xk).1; rw [e9]; show REP v pa ra L K N T I Q J (kxo σ) σ; rw [hk9]; exact hE, by show _ = _; rw [e9]⟩, by rw [ht]; exact hP, va_K.moved hW.alike hK, hD⟩, hS.F ht⟩) hS.2.2 dX5_settle_11
  · refine W.eq (g2 := F0 m 5 ls [.ref (v (4 + j680003))]) rfl ?_
    have cj680003 := nI_cl (by omega) ej680003
    refine lv_astore_n (lv' := [(2, .ref (v (4 + j680003))), (0, .ref (v 0)), (1, .int xk)]) hx hb dX5_settle_5 rfl hl (by decide) rfl (fun ls hl => ?_)
    refine lv_aload_n hx hb dX5_settle_6 rfl (lv_at hl 0 rfl) ?_
    refine lv_ifnonnull (tgt := 12) hx hb dX5_settle_7 (by decide) ?_
    refine lv_aload_n hx hb dX5_settle_12 rfl (lv_at hl 0 rfl) ?_
    obtain ⟨j680004, hj680004⟩ := pG_3 (cy := cy) (N := N) (T := T) (I := I) (Q := Q) (J := J) (hC.kp hj680003).1 (hC.kp hj680003).2
    refine va_get (D := (dC, dI)) (ci := 3) (v := .int (I (v (4 + j680003)) 2)) (C := RX3) (T := TX3) (N := 6) hx hb hts hi3 hown hK hP j680004 hj680004 rfl 2 (by decide) (hts (.fieldLink RX5 78 "TallyLogs$Producer" "mode" "I") (by decide +kernel)) (fun _ h9 => h9) rfl dX5_settle_13 ?_
    refine lv_topi (fun x680005 ex680005 => ?_)
    have sx680005 : x680005 = σ.1 9 j680003 := ex680005.trans (hE.pr j680003 hj680003).2.2.1
    refine lv_iconst (v := 2) hx hb dX5_settle_16 (by decide) ?_
    refine lv_icmp_eq (tgt := 23) hx hb dX5_settle_17 (by decide) (fun c680006 => ?_) (fun c680006 => ?_)
    · have kc680006 : x680005.toInt = 2 := by have h9 := c680006; rw [xk_eq, xk_2] at h9; exact h9
      refine lv_iconst (v := 0) hx hb dX5_settle_23 (by decide) ?_
      refine lv_istore_n (lv' := [(3, .int 0), (2, .ref (v (4 + j680003))), (0, .ref (v 0)), (1, .int xk)]) hx hb dX5_settle_24 rfl hl (by decide) rfl (fun ls hl => ?_)
      refine wq_gen (fun Qz hQz => ?_)
      have hm9 : σ.1 9 j680003 = 2 := by rw [← sx680005]; exact c680006
      have hU680007_4 : ∀ (Lz : List Nat) (Kz : Nat → Nat) (Tz : Nat → Nat → Nat) (Iz : Nat → Nat → Int32) (Qy : Nat → Nat → Option Nat) (Jz : Nat → Nat → Int32) (sz680007_4 : SG) (H : Heap) (locs : List Loc) (ls : Array Slot), sz680007_4 = oSn σ j680003 4 → REP v pa ra Lz Kz N Tz Iz Qy Jz (kxo σ) sz680007_4 → va_P (dC, dI) vwCl (va_pl Lz (pF cy Kz N Tz Iz Qy Jz)) H → va_D A (va_pl Lz (pF cy Kz N Tz Iz Qy Jz)) → va_S A s.heap H locs → lv_has ls 4 [(3, .int 4), (2, .ref (v (4 + j680003))), (0, .ref (v 0)), (1, .int xk)] → W p l e (headSpec wsX5_settle ({ frames := 4, cells := 4, slots := 32, locals := 88 })).room s m ([.ref (v 0), .int xk] : List Value).toArray below meth c H locs 4 32 Qz (F0 m 25 ls []) := by
        intro L K T I680008 Q680008 J680008 sz680007_4 H locs ls hsz hE hP hD hS hl
        have hC := hE.ct
        have hR : RS v I680008 Q680008 J680008 I680008 Q680008 J680008 := RS.rf
        obtain ⟨hSKz, hTz, hLz⟩ := oSn_k hSK hLA (by omega) hj680003 hm9 4 (by decide)
        rw [← hsz] at hSKz hTz hLz
        have hkk : kxo sz680007_4 = kxo σ := kxo_c (hTz 0 0 (by omega)) (fun q => hTz 4 q (by omega))
        have hm9z : sz680007_4.1 9 j680003 = 2 := (hTz 9 j680003 (by omega)).trans hm9
        refine lv_iload_n hx hb dX5_settle_25 rfl (lv_at hl 0 rfl) ?_
        refine lv_iconst (v := 4) hx hb dX5_settle_26 (by decide) ?_
        refine lv_icmp_ge (tgt := 74) hx hb dX5_settle_27 (by decide) (fun c680009 => ?_) (fun c680009 => ?_)
        rotate_left
        · exact absurd c680009 (by decide)
        refine lv_aload_n hx hb dX5_settle_74 rfl (lv_at hl 1 rfl) ?_
        obtain ⟨j680010, hj680010⟩ := pG_3 (cy := cy) (N := N) (T := T) (I := I680008) (Q := Q680008) (J := J680008) (hC.kp hj680003).1 (hC.kp hj680003).2
        refine va_get (D := (dC, dI)) (ci := 3) (v := .int (I680008 (v (4 + j680003)) 5)) (C := RX3) (T := TX3) (N := 6) hx hb hts hi3 hown hK hP j680010 hj680010 rfl 5 (by decide) (hts (.fieldLink RX5 126 "TallyLogs$Producer" "left" "I") (by decide +kernel)) (fun _ h9 => h9) rfl dX5_settle_75 ?_
        refine lv_topi (fun x680011 ex680011 => ?_)
        have sx680011 : x680011 = sz680007_4.1 10 j680003 := ex680011.trans (hE.pr j680003 hj680003).2.2.2.1
        refine lv_if_ne (tgt := 86) hx hb dX5_settle_78 (by decide) (fun c680012 => ?_) (fun c680012 => ?_)
        · have kc680012 : ¬ (x680011.toInt = 0) := by have h9 := c680012; rw [xk_eq, xk_0] at h9; exact h9
          refine lv_aload_n hx hb dX5_settle_86 rfl (lv_at hl 1 rfl) ?_
          obtain ⟨j680013, hj680013⟩ := pG_3 (cy := cy) (N := N) (T := T) (I := I680008) (Q := Q680008) (J := J680008) (hC.kp hj680003).1 (hC.kp hj680003).2
          refine va_get (D := (dC, dI)) (ci := 3) (v := .int (I680008 (v (4 + j680003)) 5)) (C := RX3) (T := TX3) (N := 6) hx hb hts hi3 hown hK hP j680013 hj680013 rfl 5 (by decide) (hts (.fieldLink RX5 126 "TallyLogs$Producer" "left" "I") (by decide +kernel)) (fun _ h9 => h9) rfl dX5_settle_87 ?_
          refine lv_topi (fun x680014 ex680014 => ?_)
          have sx680014 : x680014 = sz680007_4.1 10 j680003 := ex680014.trans (hE.pr j680003 hj680003).2.2.2.1
          refine vp_callSi (W.runS (As := [.int x680014]) (rest := []) ⟨hx, hb, hml, hown, hts⟩ (c_J6_bitCount_0f7a4 l x680014) (va_cwS 1 hts gX5_settle_J6_bitCount_0f7a4 rfl rfl rfl (by decide +kernel) ⟨Nat.le_of_ble_eq_true rfl, Nat.le_of_ble_eq_true rfl⟩) preEq rfl rfl hl.1 rfl (lv_room (Nat.le_of_ble_eq_true rfl)) dX5_settle_90 ⟨Nat.le_of_ble_eq_true rfl, Nat.le_of_ble_eq_true rfl⟩) (fun r680015 hr680015 => ?_)
          rw [hQz]
          refine W.widen (k := 4) (n := 32) (by omega) (by omega) ?_
          have e9 : qSt σ xk = (sz680007_4, r680015) := by unfold qSt; rw [if_neg (sp_inl_yes (i := 0) (j := 5) (by decide) (by decide) (by rw [ej680003, nI_toInt (by omega)]; omega)), cj680003, if_neg (fun z => z hm9), ← hsz, if_neg (fun z => c680012 (by rw [sx680011]; exact z)), hr680015, sx680014]
          have hk9 : kxo sz680007_4 = (kxo σ) := hkk
          exact W.iret (v := r680015) hx hb hr (fun t ht hW => ⟨⟨r680015, (L, K, T, I680008, Q680008, J680008), rfl, ⟨by show REP v pa ra L K N T I680008 Q680008 J680008 (kxo (qSt σ xk).1) (qSt σ xk).1; rw [e9]; show REP v pa ra L K N T I680008 Q680008 J680008 (kxo sz680007_4) sz680007_4; rw [hk9]; exact hE, by show _ = _; rw [e9]⟩, by rw [ht]; exact hP, va_K.moved hW.alike hK, hD⟩, hS.F ht⟩) hS.2.2 dX5_settle_93
        · have kc680012 : x680011.toInt = 0 := by have h9 := c680012; rw [xk_eq, xk_0] at h9; exact h9
          refine lv_aload_n hx hb dX5_settle_81 rfl (lv_at hl 1 rfl) ?_
          refine lv_iconst (v := 0) hx hb dX5_settle_82 (by decide) ?_
          obtain ⟨j680016, hj680016⟩ := pG_3 (cy := cy) (N := N) (T := T) (I := I680008) (Q := Q680008) (J := J680008) (hC.kp hj680003).1 (hC.kp hj680003).2
          have hDo := hD
          refine va_put (D := (dC, dI)) (ci := 3) (v := .int 0) (ty := .int) (C := RX3) (T := TX3) (N := 6) hx hb hts hi3 tyX3 tyX3_ok nmX3 hown hK hP hD hS j680016 hj680016 rfl 2 (by decide) (hts (.fieldLink RX5 78 "TallyLogs$Producer" "mode" "I") (by decide +kernel)) (fun _ h9 => h9) rfl (by decide +kernel) rfl rfl (Nat.le_of_ble_eq_true rfl) dX5_settle_83 (fun H locs hP hD hS => ?_)
          have hP := Eq.mp (congrArg (fun w => va_P (dC, dI) vwCl w H) (pP_3_2 (x := 0) hDo (hC.kp hj680003).1 (hC.kp hj680003).2 hj680016)) hP
          obtain ⟨I680017, eI680017⟩ : ∃ z, z = p2 I680008 (v (4 + j680003)) 2 0 := ⟨_, rfl⟩
          rw [← eI680017] at hP
          have hR : RS v I680017 Q680008 J680008 I680017 Q680008 J680008 := RS.rf
          obtain ⟨sg680018, esg680018⟩ : ∃ z, z = sA sz680007_4 9 j680003 0 := ⟨_, rfl⟩
          have hE : REP v pa ra L K N T I680017 Q680008 J680008 (kxo σ) sg680018 := by rw [esg680018, eI680017]; exact hE.wfree hj680003
          have hC : CT v L K N T I680017 Q680008 := by rw [eI680017]; exact hC.pi (by rw [(hC.kp hj680003).2]; decide)
          have hD : va_D A (va_pl L (pF cy K N T I680017 Q680008 J680008)) := pD hDo
          refine lv_aload_n hx hb dX5_settle_86 rfl (lv_at hl 1 rfl) ?_
          obtain ⟨j680019, hj680019⟩ := pG_3 (cy := cy) (N := N) (T := T) (I := I680017) (Q := Q680008) (J := J680008) (hC.kp hj680003).1 (hC.kp hj680003).2
          refine va_get (D := (dC, dI)) (ci := 3) (v := .int (I680017 (v (4 + j680003)) 5)) (C := RX3) (T := TX3) (N := 6) hx hb hts hi3 hown hK hP j680019 hj680019 rfl 5 (by decide) (hts (.fieldLink RX5 126 "TallyLogs$Producer" "left" "I") (by decide +kernel)) (fun _ h9 => h9) rfl dX5_settle_87 ?_
          refine lv_topi (fun x680020 ex680020 => ?_)
          have sx680020 : x680020 = sg680018.1 10 j680003 := ex680020.trans (hE.pr j680003 hj680003).2.2.2.1
          refine vp_callSi (W.runS (As := [.int x680020]) (rest := []) ⟨hx, hb, hml, hown, hts⟩ (c_J6_bitCount_0f7a4 l x680020) (va_cwS 1 hts gX5_settle_J6_bitCount_0f7a4 rfl rfl rfl (by decide +kernel) ⟨Nat.le_of_ble_eq_true rfl, Nat.le_of_ble_eq_true rfl⟩) preEq rfl rfl hl.1 rfl (lv_room (Nat.le_of_ble_eq_true rfl)) dX5_settle_90 ⟨Nat.le_of_ble_eq_true rfl, Nat.le_of_ble_eq_true rfl⟩) (fun r680021 hr680021 => ?_)
          rw [hQz]
          refine W.widen (k := 4) (n := 32) (by omega) (by omega) ?_
          have e9 : qSt σ xk = (sg680018, r680021) := by unfold qSt; rw [if_neg (sp_inl_yes (i := 0) (j := 5) (by decide) (by decide) (by rw [ej680003, nI_toInt (by omega)]; omega)), cj680003, if_neg (fun z => z hm9), ← hsz, if_pos (by rw [← sx680011]; exact c680012), hr680021, sx680020, esg680018, sA_n (by decide)]
          have hk9 : kxo sg680018 = (kxo σ) := (kxo_c (by rw [esg680018, sA_q (by omega)]) (fun q => by rw [esg680018, sA_q (by omega)])).trans hkk
          exact W.iret (v := r680021) hx hb hr (fun t ht hW => ⟨⟨r680021, (L, K, T, I680017, Q680008, J680008), rfl, ⟨by show REP v pa ra L K N T I680017 Q680008 J680008 (kxo (qSt σ xk).1) (qSt σ xk).1; rw [e9]; show REP v pa ra L K N T I680017 Q680008 J680008 (kxo sg680018) sg680018; rw [hk9]; exact hE, by show _ = _; rw [e9]⟩, by rw [ht]; exact hP, va_K.moved hW.alike hK, hD⟩, hS.F ht⟩) hS.2.2 dX5_settle_93
      have hU680007_3 : ∀ (Lz : List Nat) (Kz : Nat → Nat) (Tz : Nat → Nat → Nat) (Iz : Nat → Nat → Int32) (Qy : Nat → Nat → Option Nat) (Jz : Nat → Nat → Int32) (sz680007_3 : SG) (H : Heap) (locs : List Loc) (ls : Array Slot), sz680007_3 = oSn σ j680003 3 → REP v pa ra Lz Kz N Tz Iz Qy Jz (kxo σ) sz680007_3 → va_P (dC, dI) vwCl (va_pl Lz (pF cy Kz N Tz Iz Qy Jz)) H → va_D A (va_pl Lz (pF cy Kz N Tz Iz Qy Jz)) → va_S A s.heap H locs → lv_has ls 4 [(3, .int 3), (2, .ref (v (4 + j680003))), (0, .ref (v 0)), (1, .int xk)] → W p l e (headSpec wsX5_settle ({ frames := 4, cells := 4, slots := 32, locals := 88 })).room s m ([.ref (v 0), .int xk] : List Value).toArray below meth c H locs 3 24 Qz (F0 m 25 ls []) := by
        intro L K T I680022 Q680022 J680022 sz680007_3 H locs ls hsz hE hP hD hS hl
        have hC := hE.ct
        have hR : RS v I680022 Q680022 J680022 I680022 Q680022 J680022 := RS.rf
        obtain ⟨hSKz, hTz, hLz⟩ := oSn_k hSK hLA (by omega) hj680003 hm9 3 (by decide)
        rw [← hsz] at hSKz hTz hLz
        have hkk : kxo sz680007_3 = kxo σ := kxo_c (hTz 0 0 (by omega)) (fun q => hTz 4 q (by omega))
        have hm9z : sz680007_3.1 9 j680003 = 2 := (hTz 9 j680003 (by omega)).trans hm9
        refine lv_iload_n hx hb dX5_settle_25 rfl (lv_at hl 0 rfl) ?_
        refine lv_iconst (v := 4) hx hb dX5_settle_26 (by decide) ?_
        refine lv_icmp_ge (tgt := 74) hx hb dX5_settle_27 (by decide) (fun c680023 => ?_) (fun c680023 => ?_)
        · exact absurd c680023 (by decide)
        refine lv_aload_n hx hb dX5_settle_30 rfl (lv_at hl 1 rfl) ?_
        obtain ⟨j680024, hj680024⟩ := pG_3 (cy := cy) (N := N) (T := T) (I := I680022) (Q := Q680022) (J := J680022) (hC.kp hj680003).1 (hC.kp hj680003).2
        refine va_get (D := (dC, dI)) (ci := 3) (v := .int (I680022 (v (4 + j680003)) 5)) (C := RX3) (T := TX3) (N := 6) hx hb hts hi3 hown hK hP j680024 hj680024 rfl 5 (by decide) (hts (.fieldLink RX5 126 "TallyLogs$Producer" "left" "I") (by decide +kernel)) (fun _ h9 => h9) rfl dX5_settle_31 ?_
        refine lv_topi (fun x680025 ex680025 => ?_)
        have sx680025 : x680025 = sz680007_3.1 10 j680003 := ex680025.trans (hE.pr j680003 hj680003).2.2.2.1
        refine lv_iload_n hx hb dX5_settle_34 rfl (lv_at hl 0 rfl) ?_
        refine vp_callSi (W.runS (As := [.int x680025, .int 3]) (rest := []) ⟨hx, hb, hml, hown, hts⟩ (c_X5_contains l x680025 3) (va_cwS 2 hts gX5_settle_X5_contains rfl rfl rfl (by decide +kernel) ⟨Nat.le_of_ble_eq_true rfl, Nat.le_of_ble_eq_true rfl⟩) preEq rfl rfl hl.1 rfl (lv_room (Nat.le_of_ble_eq_true rfl)) dX5_settle_35 ⟨Nat.le_of_ble_eq_true rfl, Nat.le_of_ble_eq_true rfl⟩) (fun r680026 hr680026 => ?_)
        refine lv_if_eq (tgt := 68) hx hb dX5_settle_38 (by decide) (fun c680027 => ?_) (fun c680027 => ?_)
        · have kc680027 : r680026.toInt = 0 := by have h9 := c680027; rw [xk_eq, xk_0] at h9; exact h9
          refine lv_iinc (v := 4) (lv' := [(3, .int 4), (2, .ref (v (4 + j680003))), (0, .ref (v 0)), (1, .int xk)]) hx hb dX5_settle_68 hl (k := 0) rfl (by decide) (by decide) rfl (fun ls hl => ?_)
          refine lv_goto (tgt := 25) hx hb dX5_settle_71 (by decide) ?_
          refine W.widen (k := 4) (n := 32) (by omega) (by omega) ?_
          exact hU680007_4 _ _ _ _ _ _ _ _ _ _ (by show sz680007_3 = oS1 (oSn σ j680003 3) j680003 3; rw [← hsz, oS1_0 (sp_cn8_0 (by decide) (by rw [show nI 3 = (3 : Int32) by decide, ← sx680025, ← hr680026]; exact c680027))]) hE hP hD hS (lv_sub hl [0, 1, 2, 3] rfl)
        · have kc680027 : ¬ (r680026.toInt = 0) := by have h9 := c680027; rw [xk_eq, xk_0] at h9; exact h9
          refine lv_aload_n hx hb dX5_settle_41 rfl (lv_at hl 2 rfl) ?_
          obtain ⟨j680028, hj680028⟩ := pG_5 (cy := cy) (N := N) (T := T) (I := I680022) (Q := Q680022) (J := J680022) (hC.at 0 (by decide)) (hC.k 0 (by decide) rfl)
          refine va_get (D := (dC, dI)) (ci := 5) (v := .ref (T (v 0) 0)) (C := RX5) (T := TX5) (N := 6) hx hb hts hi5 hown hK hP j680028 hj680028 rfl 0 (by decide) (hts (.fieldLink RX5 11 "TallyLogs" "partitions" "[LTallyLogs$Partition;") (by decide +kernel)) (fun _ h9 => h9) rfl dX5_settle_42 ?_
          refine W.eq (g2 := F0 m 45 ls [.ref (v 1)]) (by rw [hC.1.2.2.1.1]) ?_
          refine lv_iload_n hx hb dX5_settle_45 rfl (lv_at hl 0 rfl) ?_
          by_cases hth680030 : sz680007_3.1 2 3 = 0
          · have hq680030 : Q680022 (v 1) (3 : Int32).toNatClampNeg = none := by rw [show (3 : Int32).toNatClampNeg = 3 by decide]; exact (hE.pt 3 (by decide)).1 hth680030
            obtain ⟨j680031, hj680031⟩ := pG_10 (cy := cy) (N := N) (T := T) (I := I680022) (Q := Q680022) (J := J680022) (hC.at 1 (by decide)) (hC.k 1 (by decide) rfl)
            refine va_aldq hx hb hK hP j680031 3 hj680031 rfl (by unfold vp_in; decide) dX5_settle_46 ?_
            refine W.eq (g2 := F0 m 47 ls [.null]) (by rw [hq680030]; rfl) ?_
            refine lv_aload_n hx hb dX5_settle_47 rfl (lv_at hl 1 rfl) ?_
            have hFc := pfree hD hS hA
            refine va_calli (va_runS (As := [.null, .ref (v (4 + j680003))]) (rest := []) ⟨hx, hb, hml, hown, hts⟩ (g_X5_markEnd0 l dC dI cy v L K N T I680022 Q680022 J680022 H.size pa ra (kxo σ) sz680007_3 j680003 hE hj680003) (va_cwS 2 hts gX5_settle_X5_markEnd rfl rfl rfl (by decide +kernel) ⟨Nat.le_of_ble_eq_true rfl, Nat.le_of_ble_eq_true rfl⟩) ⟨pw_blind, fun U hU hW => ⟨rfl, pw_pre hP hK hN hD hU hW⟩⟩ rfl rfl hl.1 rfl (lv_room (Nat.le_of_ble_eq_true rfl)) dX5_settle_48 ⟨Nat.le_of_ble_eq_true rfl, Nat.le_of_ble_eq_true rfl⟩) hS (fun q _ h => hFc q h) hFc (fun r680033 d9 t H1 locs ht hvm hw hB hz1 hk1 hS => ?_)
            obtain ⟨L, K, T, I680032, Q680032, J680032⟩ := d9
            obtain ⟨hE9n, hr680033⟩ := hw
            have hr680033 : r680033 = 0 := hr680033
            obtain ⟨hP, hK1, hD1⟩ := hB
            rw [ht] at hP
            have hD := hD1.weaken (fun _ _ _ h => hFc _ h)
            generalize H1 = H at hP hS ⊢
            have hP : va_P (dC, dI) vwCl (va_pl L (pF cy K N T I680032 Q680032 J680032)) H := hP
            have hD : va_D A (va_pl L (pF cy K N T I680032 Q680032 J680032)) := hD
            have hR : RS v I680032 Q680032 J680032 I680032 Q680032 J680032 := RS.rf
            have hE : REP v pa ra L K N T I680032 Q680032 J680032 (kxo σ) sz680007_3 := hE9n
            have hC := hE.ct
            refine W.widen (k := 4) (n := 32) (by omega) (by omega) ?_
            refine lv_if_eq (tgt := 68) hx hb dX5_settle_51 (by decide) (fun c680034 => ?_) (fun c680034 => ?_)
            rotate_left
            · exact absurd hr680033 c680034
            refine lv_iinc (v := 4) (lv' := [(3, .int 4), (2, .ref (v (4 + j680003))), (0, .ref (v 0)), (1, .int xk)]) hx hb dX5_settle_68 hl (k := 0) rfl (by decide) (by decide) rfl (fun ls hl => ?_)
            refine lv_goto (tgt := 25) hx hb dX5_settle_71 (by decide) ?_
            refine W.widen (k := 4) (n := 32) (by omega) (by omega) ?_
            exact hU680007_4 _ _ _ _ _ _ _ _ _ _ (by show sz680007_3 = oS1 (oSn σ j680003 3) j680003 3; rw [← hsz, oS1_n hth680030 (hSKz.1 3 (by decide))]) hE hP hD hS (lv_sub hl [0, 1, 2, 3] rfl)
          · have hq680030 : Q680022 (v 1) (3 : Int32).toNatClampNeg = some (pa 3) := by rw [show (3 : Int32).toNatClampNeg = 3 by decide]; exact hE.pq (by decide) hth680030
            obtain ⟨j680035, hj680035⟩ := pG_10 (cy := cy) (N := N) (T := T) (I := I680022) (Q := Q680022) (J := J680022) (hC.at 1 (by decide)) (hC.k 1 (by decide) rfl)
            refine va_aldq hx hb hK hP j680035 3 hj680035 rfl (by unfold vp_in; decide) dX5_settle_46 ?_
            refine W.eq (g2 := F0 m 47 ls [.ref (pa 3)]) (by rw [hq680030]; rfl) ?_
            refine lv_aload_n hx hb dX5_settle_47 rfl (lv_at hl 1 rfl) ?_
            have hFc := pfree hD hS hA
            refine va_calli (va_runS (As := [.ref (pa 3), .ref (v (4 + j680003))]) (rest := []) ⟨hx, hb, hml, hown, hts⟩ (g_X5_markEnd l dC dI cy v L K N T I680022 Q680022 J680022 H.size pa ra (kxo σ) sz680007_3 E 3 j680003 hE (by decide) hth680030 hj680003 hkk.symm hSKz (fun m hm => by rw [hLz 3 m (by omega) (by omega) hm]; exact hLA (5 * 3 + m) (by omega)) hE9 hm9z) (va_cwS 2 hts gX5_settle_X5_markEnd rfl rfl rfl (by decide +kernel) ⟨Nat.le_of_ble_eq_true rfl, Nat.le_of_ble_eq_true rfl⟩) ⟨pw_blind, fun U hU hW => ⟨rfl, pw_pre hP hK hN hD hU hW⟩⟩ rfl rfl hl.1 rfl (lv_room (Nat.le_of_ble_eq_true rfl)) dX5_settle_48 ⟨Nat.le_of_ble_eq_true rfl, Nat.le_of_ble_eq_true rfl⟩) hS (fun q _ h => hFc q h) hFc (fun r680037 d9 t H1 locs ht hvm hw hB hz1 hk1 hS => ?_)
            obtain ⟨L, K, T, I680036, Q680036, J680036⟩ := d9
            obtain ⟨hE9n, hr680037⟩ := hw
            have hr680037 : r680037 = (oMk sz680007_3 3 j680003).2 := hr680037
            obtain ⟨hP, hK1, hD1⟩ := hB
            rw [ht] at hP
            have hD := hD1.weaken (fun _ _ _ h => hFc _ h)
            generalize H1 = H at hP hS ⊢
            have hP : va_P (dC, dI) vwCl (va_pl L (pF cy K N T I680036 Q680036 J680036)) H := hP
            have hD : va_D A (va_pl L (pF cy K N T I680036 Q680036 J680036)) := hD
            have hR : RS v I680036 Q680036 J680036 I680036 Q680036 J680036 := RS.rf
            obtain ⟨sg680038, esg680038⟩ : ∃ z, z = (oMk sz680007_3 3 j680003).1 := ⟨_, rfl⟩
            have hE : REP v pa ra L K N T I680036 Q680036 J680036 (kxo σ) sg680038 := by rw [esg680038]; exact hE9n
            have hC := hE.ct
            refine W.widen (k := 4) (n := 32) (by omega) (by omega) ?_
            refine lv_if_eq (tgt := 68) hx hb dX5_settle_51 (by decide) (fun c680039 => ?_) (fun c680039 => ?_)
            · have kc680039 : r680037.toInt = 0 := by have h9 := c680039; rw [xk_eq, xk_0] at h9; exact h9
              refine lv_iinc (v := 4) (lv' := [(3, .int 4), (2, .ref (v (4 + j680003))), (0, .ref (v 0)), (1, .int xk)]) hx hb dX5_settle_68 hl (k := 0) rfl (by decide) (by decide) rfl (fun ls hl => ?_)
              refine lv_goto (tgt := 25) hx hb dX5_settle_71 (by decide) ?_
              refine W.widen (k := 4) (n := 32) (by omega) (by omega) ?_
              exact hU680007_4 _ _ _ _ _ _ _ _ _ _ (by show sg680038 = oS1 (oSn σ j680003 3) j680003 3; rw [← hsz, oS1_mk0 (sp_cn8_1 (by decide) (by rw [show nI 3 = (3 : Int32) by decide, ← sx680025, ← hr680026]; exact c680027)) (by rw [← hr680037]; exact c680039), esg680038]) hE hP hD hS (lv_sub hl [0, 1, 2, 3] rfl)
            · have kc680039 : ¬ (r680037.toInt = 0) := by have h9 := c680039; rw [xk_eq, xk_0] at h9; exact h9
              refine lv_aload_n hx hb dX5_settle_54 rfl (lv_at hl 1 rfl) ?_
              refine lv_dup hx hb dX5_settle_55 rfl ?_
              obtain ⟨j680040, hj680040⟩ := pG_3 (cy := cy) (N := N) (T := T) (I := I680036) (Q := Q680036) (J := J680036) (hC.kp hj680003).1 (hC.kp hj680003).2
              refine va_get (D := (dC, dI)) (ci := 3) (v := .int (I680036 (v (4 + j680003)) 5)) (C := RX3) (T := TX3) (N := 6) hx hb hts hi3 hown hK hP j680040 hj680040 rfl 5 (by decide) (hts (.fieldLink RX5 126 "TallyLogs$Producer" "left" "I") (by decide +kernel)) (fun _ h9 => h9) rfl dX5_settle_56 ?_
              refine lv_topi (fun x680041 ex680041 => ?_)
              have sx680041 : x680041 = sg680038.1 10 j680003 := ex680041.trans (hE.pr j680003 hj680003).2.2.2.1
              refine lv_iconst (v := 1) hx hb dX5_settle_59 (by decide) ?_
              refine lv_iload_n hx hb dX5_settle_60 rfl (lv_at hl 0 rfl) ?_
              refine lv_ishl hx hb dX5_settle_61 ?_
              refine lv_topi (fun v680042 ev680042 => ?_)
              obtain rfl : v680042 = (8 : Int32) := ev680042.trans (by decide)
              refine lv_iconst (v := (-1)) hx hb dX5_settle_62 (by decide) ?_
              refine lv_ixor hx hb dX5_settle_63 ?_
              refine lv_topi (fun v680043 ev680043 => ?_)
              obtain rfl : v680043 = ((-9) : Int32) := ev680043.trans (by decide)
              refine lv_iand hx hb dX5_settle_64 ?_
              refine lv_topi (fun v680044 ev680044 => ?_)
              obtain ⟨j680045, hj680045⟩ := pG_3 (cy := cy) (N := N) (T := T) (I := I680036) (Q := Q680036) (J := J680036) (hC.kp hj680003).1 (hC.kp hj680003).2
              have hDo := hD
              refine va_put (D := (dC, dI)) (ci := 3) (v := .int v680044) (ty := .int) (C := RX3) (T := TX3) (N := 6) hx hb hts hi3 tyX3 tyX3_ok nmX3 hown hK hP hD hS j680045 hj680045 rfl 5 (by decide) (hts (.fieldLink RX5 126 "TallyLogs$Producer" "left" "I") (by decide +kernel)) (fun _ h9 => h9) rfl (by decide +kernel) rfl rfl (Nat.le_of_ble_eq_true rfl) dX5_settle_65 (fun H locs hP hD hS => ?_)
              have hP := Eq.mp (congrArg (fun w => va_P (dC, dI) vwCl w H) (pP_3_5 (x := v680044) hDo (hC.kp hj680003).1 (hC.kp hj680003).2 hj680045)) hP
              obtain ⟨I680046, eI680046⟩ : ∃ z, z = p2 I680036 (v (4 + j680003)) 5 v680044 := ⟨_, rfl⟩
              rw [← eI680046] at hP
              have hR : RS v I680046 Q680036 J680036 I680046 Q680036 J680036 := RS.rf
              obtain ⟨sg680047, esg680047⟩ : ∃ z, z = sA sg680038 10 j680003 v680044 := ⟨_, rfl⟩
              have hE : REP v pa ra L K N T I680046 Q680036 J680036 (kxo σ) sg680047 := by rw [esg680047, eI680046]; exact hE.wleft hj680003
              have hC : CT v L K N T I680046 Q680036 := by rw [eI680046]; exact hC.pi (by rw [(hC.kp hj680003).2]; decide)
              have hD : va_D A (va_pl L (pF cy K N T I680046 Q680036 J680036)) := pD hDo
              refine lv_iinc (v := 4) (lv' := [(3, .int 4), (2, .ref (v (4 + j680003))), (0, .ref (v 0)), (1, .int xk)]) hx hb dX5_settle_68 hl (k := 0) rfl (by decide) (by decide) rfl (fun ls hl => ?_)
              refine lv_goto (tgt := 25) hx hb dX5_settle_71 (by decide) ?_
              refine W.widen (k := 4) (n := 32) (by omega) (by omega) ?_
              exact hU680007_4 _ _ _ _ _ _ _ _ _ _ (by show sg680047 = oS1 (oSn σ j680003 3) j680003 3; rw [← hsz, oS1_mk1 (sp_cn8_1 (by decide) (by rw [show nI 3 = (3 : Int32) by decide, ← sx680025, ← hr680026]; exact c680027)) (fun z => c680039 (by rw [hr680037]; exact z)), show ((1 : Int32) <<< (nI 3 &&& 31)) ^^^ (-1) = (-9) by decide, esg680047, ev680044, sx680041, esg680038, oMk_10]) hE hP hD hS (lv_sub hl [0, 1, 2, 3] rfl)
      have hU680007_2 : ∀ (Lz : List Nat) (Kz : Nat → Nat) (Tz : Nat → Nat → Nat) (Iz : Nat → Nat → Int32) (Qy : Nat → Nat → Option Nat) (Jz : Nat → Nat → Int32) (sz680007_2 : SG) (H : Heap) (locs : List Loc) (ls : Array Slot), sz680007_2 = oSn σ j680003 2 → REP v pa ra Lz Kz N Tz Iz Qy Jz (kxo σ) sz680007_2 → va_P (dC, dI) vwCl (va_pl Lz (pF cy Kz N Tz Iz Qy Jz)) H → va_D A (va_pl Lz (pF cy Kz N Tz Iz Qy Jz)) → va_S A s.heap H locs → lv_has ls 4 [(3, .int 2), (2, .ref (v (4 + j680003))), (0, .ref (v 0)), (1, .int xk)] → W p l e (headSpec wsX5_settle ({ frames := 4, cells := 4, slots := 32, locals := 88 })).room s m ([.ref (v 0), .int xk] : List Value).toArray below meth c H locs 2 16 Qz (F0 m 25 ls []) := by
        intro L K T I680048 Q680048 J680048 sz680007_2 H locs ls hsz hE hP hD hS hl
        have hC := hE.ct
        have hR : RS v I680048 Q680048 J680048 I680048 Q680048 J680048 := RS.rf
        obtain ⟨hSKz, hTz, hLz⟩ := oSn_k hSK hLA (by omega) hj680003 hm9 2 (by decide)
        rw [← hsz] at hSKz hTz hLz
        have hkk : kxo sz680007_2 = kxo σ := kxo_c (hTz 0 0 (by omega)) (fun q => hTz 4 q (by omega))
        have hm9z : sz680007_2.1 9 j680003 = 2 := (hTz 9 j680003 (by omega)).trans hm9
        refine lv_iload_n hx hb dX5_settle_25 rfl (lv_at hl 0 rfl) ?_
        refine lv_iconst (v := 4) hx hb dX5_settle_26 (by decide) ?_
        refine lv_icmp_ge (tgt := 74) hx hb dX5_settle_27 (by decide) (fun c680049 => ?_) (fun c680049 => ?_)
        · exact absurd c680049 (by decide)
        refine lv_aload_n hx hb dX5_settle_30 rfl (lv_at hl 1 rfl) ?_
        obtain ⟨j680050, hj680050⟩ := pG_3 (cy := cy) (N := N) (T := T) (I := I680048) (Q := Q680048) (J := J680048) (hC.kp hj680003).1 (hC.kp hj680003).2
        refine va_get (D := (dC, dI)) (ci := 3) (v := .int (I680048 (v (4 + j680003)) 5)) (C := RX3) (T := TX3) (N := 6) hx hb hts hi3 hown hK hP j680050 hj680050 rfl 5 (by decide) (hts (.fieldLink RX5 126 "TallyLogs$Producer" "left" "I") (by decide +kernel)) (fun _ h9 => h9) rfl dX5_settle_31 ?_
        refine lv_topi (fun x680051 ex680051 => ?_)
        have sx680051 : x680051 = sz680007_2.1 10 j680003 := ex680051.trans (hE.pr j680003 hj680003).2.2.2.1
        refine lv_iload_n hx hb dX5_settle_34 rfl (lv_at hl 0 rfl) ?_
        refine vp_callSi (W.runS (As := [.int x680051, .int 2]) (rest := []) ⟨hx, hb, hml, hown, hts⟩ (c_X5_contains l x680051 2) (va_cwS 2 hts gX5_settle_X5_contains rfl rfl rfl (by decide +kernel) ⟨Nat.le_of_ble_eq_true rfl, Nat.le_of_ble_eq_true rfl⟩) preEq rfl rfl hl.1 rfl (lv_room (Nat.le_of_ble_eq_true rfl)) dX5_settle_35 ⟨Nat.le_of_ble_eq_true rfl, Nat.le_of_ble_eq_true rfl⟩) (fun r680052 hr680052 => ?_)
        refine lv_if_eq (tgt := 68) hx hb dX5_settle_38 (by decide) (fun c680053 => ?_) (fun c680053 => ?_)
        · have kc680053 : r680052.toInt = 0 := by have h9 := c680053; rw [xk_eq, xk_0] at h9; exact h9
          refine lv_iinc (v := 3) (lv' := [(3, .int 3), (2, .ref (v (4 + j680003))), (0, .ref (v 0)), (1, .int xk)]) hx hb dX5_settle_68 hl (k := 0) rfl (by decide) (by decide) rfl (fun ls hl => ?_)
          refine lv_goto (tgt := 25) hx hb dX5_settle_71 (by decide) ?_
          refine W.widen (k := 3) (n := 24) (by omega) (by omega) ?_
          exact hU680007_3 _ _ _ _ _ _ _ _ _ _ (by show sz680007_2 = oS1 (oSn σ j680003 2) j680003 2; rw [← hsz, oS1_0 (sp_cn8_0 (by decide) (by rw [show nI 2 = (2 : Int32) by decide, ← sx680051, ← hr680052]; exact c680053))]) hE hP hD hS (lv_sub hl [0, 1, 2, 3] rfl)
        · have kc680053 : ¬ (r680052.toInt = 0) := by have h9 := c680053; rw [xk_eq, xk_0] at h9; exact h9
          refine lv_aload_n hx hb dX5_settle_41 rfl (lv_at hl 2 rfl) ?_
          obtain ⟨j680054, hj680054⟩ := pG_5 (cy := cy) (N := N) (T := T) (I := I680048) (Q := Q680048) (J := J680048) (hC.at 0 (by decide)) (hC.k 0 (by decide) rfl)
          refine va_get (D := (dC, dI)) (ci := 5) (v := .ref (T (v 0) 0)) (C := RX5) (T := TX5) (N := 6) hx hb hts hi5 hown hK hP j680054 hj680054 rfl 0 (by decide) (hts (.fieldLink RX5 11 "TallyLogs" "partitions" "[LTallyLogs$Partition;") (by decide +kernel)) (fun _ h9 => h9) rfl dX5_settle_42 ?_
          refine W.eq (g2 := F0 m 45 ls [.ref (v 1)]) (by rw [hC.1.2.2.1.1]) ?_
          refine lv_iload_n hx hb dX5_settle_45 rfl (lv_at hl 0 rfl) ?_
          by_cases hth680056 : sz680007_2.1 2 2 = 0
          · have hq680056 : Q680048 (v 1) (2 : Int32).toNatClampNeg = none := by rw [show (2 : Int32).toNatClampNeg = 2 by decide]; exact (hE.pt 2 (by decide)).1 hth680056
            obtain ⟨j680057, hj680057⟩ := pG_10 (cy := cy) (N := N) (T := T) (I := I680048) (Q := Q680048) (J := J680048) (hC.at 1 (by decide)) (hC.k 1 (by decide) rfl)
            refine va_aldq hx hb hK hP j680057 3 hj680057 rfl (by unfold vp_in; decide) dX5_settle_46 ?_
            refine W.eq (g2 := F0 m 47 ls [.null]) (by rw [hq680056]; rfl) ?_
            refine lv_aload_n hx hb dX5_settle_47 rfl (lv_at hl 1 rfl) ?_
            have hFc := pfree hD hS hA
            refine va_calli (va_runS (As := [.null, .ref (v (4 + j680003))]) (rest := []) ⟨hx, hb, hml, hown, hts⟩ (g_X5_markEnd0 l dC dI cy v L K N T I680048 Q680048 J680048 H.size pa ra (kxo σ) sz680007_2 j680003 hE hj680003) (va_cwS 2 hts gX5_settle_X5_markEnd rfl rfl rfl (by decide +kernel) ⟨Nat.le_of_ble_eq_true rfl, Nat.le_of_ble_eq_true rfl⟩) ⟨pw_blind, fun U hU hW => ⟨rfl, pw_pre hP hK hN hD hU hW⟩⟩ rfl rfl hl.1 rfl (lv_room (Nat.le_of_ble_eq_true rfl)) dX5_settle_48 ⟨Nat.le_of_ble_eq_true rfl, Nat.le_of_ble_eq_true rfl⟩) hS (fun q _ h => hFc q h) hFc (fun r680059 d9 t H1 locs ht hvm hw hB hz1 hk1 hS => ?_)
            obtain ⟨L, K, T, I680058, Q680058, J680058⟩ := d9
            obtain ⟨hE9n, hr680059⟩ := hw
            have hr680059 : r680059 = 0 := hr680059
            obtain ⟨hP, hK1, hD1⟩ := hB
            rw [ht] at hP
            have hD := hD1.weaken (fun _ _ _ h => hFc _ h)
            generalize H1 = H at hP hS ⊢
            have hP : va_P (dC, dI) vwCl (va_pl L (pF cy K N T I680058 Q680058 J680058)) H := hP
            have hD : va_D A (va_pl L (pF cy K N T I680058 Q680058 J680058)) := hD
            have hR : RS v I680058 Q680058 J680058 I680058 Q680058 J680058 := RS.rf
            have hE : REP v pa ra L K N T I680058 Q680058 J680058 (kxo σ) sz680007_2 := hE9n
            have hC := hE.ct
            refine W.widen (k := 3) (n := 24) (by omega) (by omega) ?_
            refine lv_if_eq (tgt := 68) hx hb dX5_settle_51 (by decide) (fun c680060 => ?_) (fun c680060 => ?_)
            rotate_left
            · exact absurd hr680059 c680060
            refine lv_iinc (v := 3) (lv' := [(3, .int 3), (2, .ref (v (4 + j680003))), (0, .ref (v 0)), (1, .int xk)]) hx hb dX5_settle_68 hl (k := 0) rfl (by decide) (by decide) rfl (fun ls hl => ?_)
            refine lv_goto (tgt := 25) hx hb dX5_settle_71 (by decide) ?_
            refine W.widen (k := 3) (n := 24) (by omega) (by omega) ?_
            exact hU680007_3 _ _ _ _ _ _ _ _ _ _ (by show sz680007_2 = oS1 (oSn σ j680003 2) j680003 2; rw [← hsz, oS1_n hth680056 (hSKz.1 2 (by decide))]) hE hP hD hS (lv_sub hl [0, 1, 2, 3] rfl)
          · have hq680056 : Q680048 (v 1) (2 : Int32).toNatClampNeg = some (pa 2) := by rw [show (2 : Int32).toNatClampNeg = 2 by decide]; exact hE.pq (by decide) hth680056
            obtain ⟨j680061, hj680061⟩ := pG_10 (cy := cy) (N := N) (T := T) (I := I680048) (Q := Q680048) (J := J680048) (hC.at 1 (by decide)) (hC.k 1 (by decide) rfl)
            refine va_aldq hx hb hK hP j680061 3 hj680061 rfl (by unfold vp_in; decide) dX5_settle_46 ?_
            refine W.eq (g2 := F0 m 47 ls [.ref (pa 2)]) (by rw [hq680056]; rfl) ?_
            refine lv_aload_n hx hb dX5_settle_47 rfl (lv_at hl 1 rfl) ?_
            have hFc := pfree hD hS hA
            refine va_calli (va_runS (As := [.ref (pa 2), .ref (v (4 + j680003))]) (rest := []) ⟨hx, hb, hml, hown, hts⟩ (g_X5_markEnd l dC dI cy v L K N T I680048 Q680048 J680048 H.size pa ra (kxo σ) sz680007_2 E 2 j680003 hE (by decide) hth680056 hj680003 hkk.symm hSKz (fun m hm => by rw [hLz 2 m (by omega) (by omega) hm]; exact hLA (5 * 2 + m) (by omega)) hE9 hm9z) (va_cwS 2 hts gX5_settle_X5_markEnd rfl rfl rfl (by decide +kernel) ⟨Nat.le_of_ble_eq_true rfl, Nat.le_of_ble_eq_true rfl⟩) ⟨pw_blind, fun U hU hW => ⟨rfl, pw_pre hP hK hN hD hU hW⟩⟩ rfl rfl hl.1 rfl (lv_room (Nat.le_of_ble_eq_true rfl)) dX5_settle_48 ⟨Nat.le_of_ble_eq_true rfl, Nat.le_of_ble_eq_true rfl⟩) hS (fun q _ h => hFc q h) hFc (fun r680063 d9 t H1 locs ht hvm hw hB hz1 hk1 hS => ?_)
            obtain ⟨L, K, T, I680062, Q680062, J680062⟩ := d9
            obtain ⟨hE9n, hr680063⟩ := hw
            have hr680063 : r680063 = (oMk sz680007_2 2 j680003).2 := hr680063
            obtain ⟨hP, hK1, hD1⟩ := hB
            rw [ht] at hP
            have hD := hD1.weaken (fun _ _ _ h => hFc _ h)
            generalize H1 = H at hP hS ⊢
            have hP : va_P (dC, dI) vwCl (va_pl L (pF cy K N T I680062 Q680062 J680062)) H := hP
            have hD : va_D A (va_pl L (pF cy K N T I680062 Q680062 J680062)) := hD
            have hR : RS v I680062 Q680062 J680062 I680062 Q680062 J680062 := RS.rf
            obtain ⟨sg680064, esg680064⟩ : ∃ z, z = (oMk sz680007_2 2 j680003).1 := ⟨_, rfl⟩
            have hE : REP v pa ra L K N T I680062 Q680062 J680062 (kxo σ) sg680064 := by rw [esg680064]; exact hE9n
            have hC := hE.ct
            refine W.widen (k := 3) (n := 24) (by omega) (by omega) ?_
            refine lv_if_eq (tgt := 68) hx hb dX5_settle_51 (by decide) (fun c680065 => ?_) (fun c680065 => ?_)
            · have kc680065 : r680063.toInt = 0 := by have h9 := c680065; rw [xk_eq, xk_0] at h9; exact h9
              refine lv_iinc (v := 3) (lv' := [(3, .int 3), (2, .ref (v (4 + j680003))), (0, .ref (v 0)), (1, .int xk)]) hx hb dX5_settle_68 hl (k := 0) rfl (by decide) (by decide) rfl (fun ls hl => ?_)
              refine lv_goto (tgt := 25) hx hb dX5_settle_71 (by decide) ?_
              refine W.widen (k := 3) (n := 24) (by omega) (by omega) ?_
              exact hU680007_3 _ _ _ _ _ _ _ _ _ _ (by show sg680064 = oS1 (oSn σ j680003 2) j680003 2; rw [← hsz, oS1_mk0 (sp_cn8_1 (by decide) (by rw [show nI 2 = (2 : Int32) by decide, ← sx680051, ← hr680052]; exact c680053)) (by rw [← hr680063]; exact c680065), esg680064]) hE hP hD hS (lv_sub hl [0, 1, 2, 3] rfl)
            · have kc680065 : ¬ (r680063.toInt = 0) := by have h9 := c680065; rw [xk_eq, xk_0] at h9; exact h9
              refine lv_aload_n hx hb dX5_settle_54 rfl (lv_at hl 1 rfl) ?_
              refine lv_dup hx hb dX5_settle_55 rfl ?_
              obtain ⟨j680066, hj680066⟩ := pG_3 (cy := cy) (N := N) (T := T) (I := I680062) (Q := Q680062) (J := J680062) (hC.kp hj680003).1 (hC.kp hj680003).2
              refine va_get (D := (dC, dI)) (ci := 3) (v := .int (I680062 (v (4 + j680003)) 5)) (C := RX3) (T := TX3) (N := 6) hx hb hts hi3 hown hK hP j680066 hj680066 rfl 5 (by decide) (hts (.fieldLink RX5 126 "TallyLogs$Producer" "left" "I") (by decide +kernel)) (fun _ h9 => h9) rfl dX5_settle_56 ?_
              refine lv_topi (fun x680067 ex680067 => ?_)
              have sx680067 : x680067 = sg680064.1 10 j680003 := ex680067.trans (hE.pr j680003 hj680003).2.2.2.1
              refine lv_iconst (v := 1) hx hb dX5_settle_59 (by decide) ?_
              refine lv_iload_n hx hb dX5_settle_60 rfl (lv_at hl 0 rfl) ?_
              refine lv_ishl hx hb dX5_settle_61 ?_
              refine lv_topi (fun v680068 ev680068 => ?_)
              obtain rfl : v680068 = (4 : Int32) := ev680068.trans (by decide)
              refine lv_iconst (v := (-1)) hx hb dX5_settle_62 (by decide) ?_
              refine lv_ixor hx hb dX5_settle_63 ?_
              refine lv_topi (fun v680069 ev680069 => ?_)
              obtain rfl : v680069 = ((-5) : Int32) := ev680069.trans (by decide)
              refine lv_iand hx hb dX5_settle_64 ?_
              refine lv_topi (fun v680070 ev680070 => ?_)
              obtain ⟨j680071, hj680071⟩ := pG_3 (cy := cy) (N := N) (T := T) (I := I680062) (Q := Q680062) (J := J680062) (hC.kp hj680003).1 (hC.kp hj680003).2
              have hDo := hD
              refine va_put (D := (dC, dI)) (ci := 3) (v := .int v680070) (ty := .int) (C := RX3) (T := TX3) (N := 6) hx hb hts hi3 tyX3 tyX3_ok nmX3 hown hK hP hD hS j680071 hj680071 rfl 5 (by decide) (hts (.fieldLink RX5 126 "TallyLogs$Producer" "left" "I") (by decide +kernel)) (fun _ h9 => h9) rfl (by decide +kernel) rfl rfl (Nat.le_of_ble_eq_true rfl) dX5_settle_65 (fun H locs hP hD hS => ?_)
              have hP := Eq.mp (congrArg (fun w => va_P (dC, dI) vwCl w H) (pP_3_5 (x := v680070) hDo (hC.kp hj680003).1 (hC.kp hj680003).2 hj680071)) hP
              obtain ⟨I680072, eI680072⟩ : ∃ z, z = p2 I680062 (v (4 + j680003)) 5 v680070 := ⟨_, rfl⟩
              rw [← eI680072] at hP
              have hR : RS v I680072 Q680062 J680062 I680072 Q680062 J680062 := RS.rf
              obtain ⟨sg680073, esg680073⟩ : ∃ z, z = sA sg680064 10 j680003 v680070 := ⟨_, rfl⟩
              have hE : REP v pa ra L K N T I680072 Q680062 J680062 (kxo σ) sg680073 := by rw [esg680073, eI680072]; exact hE.wleft hj680003
              have hC : CT v L K N T I680072 Q680062 := by rw [eI680072]; exact hC.pi (by rw [(hC.kp hj680003).2]; decide)
              have hD : va_D A (va_pl L (pF cy K N T I680072 Q680062 J680062)) := pD hDo
              refine lv_iinc (v := 3) (lv' := [(3, .int 3), (2, .ref (v (4 + j680003))), (0, .ref (v 0)), (1, .int xk)]) hx hb dX5_settle_68 hl (k := 0) rfl (by decide) (by decide) rfl (fun ls hl => ?_)
              refine lv_goto (tgt := 25) hx hb dX5_settle_71 (by decide) ?_
              refine W.widen (k := 3) (n := 24) (by omega) (by omega) ?_
              exact hU680007_3 _ _ _ _ _ _ _ _ _ _ (by show sg680073 = oS1 (oSn σ j680003 2) j680003 2; rw [← hsz, oS1_mk1 (sp_cn8_1 (by decide) (by rw [show nI 2 = (2 : Int32) by decide, ← sx680051, ← hr680052]; exact c680053)) (fun z => c680065 (by rw [hr680063]; exact z)), show ((1 : Int32) <<< (nI 2 &&& 31)) ^^^ (-1) = (-5) by decide, esg680073, ev680070, sx680067, esg680064, oMk_10]) hE hP hD hS (lv_sub hl [0, 1, 2, 3] rfl)
      have hU680007_1 : ∀ (Lz : List Nat) (Kz : Nat → Nat) (Tz : Nat → Nat → Nat) (Iz : Nat → Nat → Int32) (Qy : Nat → Nat → Option Nat) (Jz : Nat → Nat → Int32) (sz680007_1 : SG) (H : Heap) (locs : List Loc) (ls : Array Slot), sz680007_1 = oSn σ j680003 1 → REP v pa ra Lz Kz N Tz Iz Qy Jz (kxo σ) sz680007_1 → va_P (dC, dI) vwCl (va_pl Lz (pF cy Kz N Tz Iz Qy Jz)) H → va_D A (va_pl Lz (pF cy Kz N Tz Iz Qy Jz)) → va_S A s.heap H locs → lv_has ls 4 [(3, .int 1), (2, .ref (v (4 + j680003))), (0, .ref (v 0)), (1, .int xk)] → W p l e (headSpec wsX5_settle ({ frames := 4, cells := 4, slots := 32, locals := 88 })).room s m ([.ref (v 0), .int xk] : List Value).toArray below meth c H locs 1 8 Qz (F0 m 25 ls []) := by
        intro L K T I680074 Q680074 J680074 sz680007_1 H locs ls hsz hE hP hD hS hl
        have hC := hE.ct
        have hR : RS v I680074 Q680074 J680074 I680074 Q680074 J680074 := RS.rf
        obtain ⟨hSKz, hTz, hLz⟩ := oSn_k hSK hLA (by omega) hj680003 hm9 1 (by decide)
        rw [← hsz] at hSKz hTz hLz
        have hkk : kxo sz680007_1 = kxo σ := kxo_c (hTz 0 0 (by omega)) (fun q => hTz 4 q (by omega))
        have hm9z : sz680007_1.1 9 j680003 = 2 := (hTz 9 j680003 (by omega)).trans hm9
        refine lv_iload_n hx hb dX5_settle_25 rfl (lv_at hl 0 rfl) ?_
        refine lv_iconst (v := 4) hx hb dX5_settle_26 (by decide) ?_
        refine lv_icmp_ge (tgt := 74) hx hb dX5_settle_27 (by decide) (fun c680075 => ?_) (fun c680075 => ?_)
        · exact absurd c680075 (by decide)
        refine lv_aload_n hx hb dX5_settle_30 rfl (lv_at hl 1 rfl) ?_
        obtain ⟨j680076, hj680076⟩ := pG_3 (cy := cy) (N := N) (T := T) (I := I680074) (Q := Q680074) (J := J680074) (hC.kp hj680003).1 (hC.kp hj680003).2
        refine va_get (D := (dC, dI)) (ci := 3) (v := .int (I680074 (v (4 + j680003)) 5)) (C := RX3) (T := TX3) (N := 6) hx hb hts hi3 hown hK hP j680076 hj680076 rfl 5 (by decide) (hts (.fieldLink RX5 126 "TallyLogs$Producer" "left" "I") (by decide +kernel)) (fun _ h9 => h9) rfl dX5_settle_31 ?_
        refine lv_topi (fun x680077 ex680077 => ?_)
        have sx680077 : x680077 = sz680007_1.1 10 j680003 := ex680077.trans (hE.pr j680003 hj680003).2.2.2.1
        refine lv_iload_n hx hb dX5_settle_34 rfl (lv_at hl 0 rfl) ?_
        refine vp_callSi (W.runS (As := [.int x680077, .int 1]) (rest := []) ⟨hx, hb, hml, hown, hts⟩ (c_X5_contains l x680077 1) (va_cwS 2 hts gX5_settle_X5_contains rfl rfl rfl (by decide +kernel) ⟨Nat.le_of_ble_eq_true rfl, Nat.le_of_ble_eq_true rfl⟩) preEq rfl rfl hl.1 rfl (lv_room (Nat.le_of_ble_eq_true rfl)) dX5_settle_35 ⟨Nat.le_of_ble_eq_true rfl, Nat.le_of_ble_eq_true rfl⟩) (fun r680078 hr680078 => ?_)
        refine lv_if_eq (tgt := 68) hx hb dX5_settle_38 (by decide) (fun c680079 => ?_) (fun c680079 => ?_)
        · have kc680079 : r680078.toInt = 0 := by have h9 := c680079; rw [xk_eq, xk_0] at h9; exact h9
          refine lv_iinc (v := 2) (lv' := [(3, .int 2), (2, .ref (v (4 + j680003))), (0, .ref (v 0)), (1, .int xk)]) hx hb dX5_settle_68 hl (k := 0) rfl (by decide) (by decide) rfl (fun ls hl => ?_)
          refine lv_goto (tgt := 25) hx hb dX5_settle_71 (by decide) ?_
          refine W.widen (k := 2) (n := 16) (by omega) (by omega) ?_
          exact hU680007_2 _ _ _ _ _ _ _ _ _ _ (by show sz680007_1 = oS1 (oSn σ j680003 1) j680003 1; rw [← hsz, oS1_0 (sp_cn8_0 (by decide) (by rw [show nI 1 = (1 : Int32) by decide, ← sx680077, ← hr680078]; exact c680079))]) hE hP hD hS (lv_sub hl [0, 1, 2, 3] rfl)
        · have kc680079 : ¬ (r680078.toInt = 0) := by have h9 := c680079; rw [xk_eq, xk_0] at h9; exact h9
          refine lv_aload_n hx hb dX5_settle_41 rfl (lv_at hl 2 rfl) ?_
          obtain ⟨j680080, hj680080⟩ := pG_5 (cy := cy) (N := N) (T := T) (I := I680074) (Q := Q680074) (J := J680074) (hC.at 0 (by decide)) (hC.k 0 (by decide) rfl)
          refine va_get (D := (dC, dI)) (ci := 5) (v := .ref (T (v 0) 0)) (C := RX5) (T := TX5) (N := 6) hx hb hts hi5 hown hK hP j680080 hj680080 rfl 0 (by decide) (hts (.fieldLink RX5 11 "TallyLogs" "partitions" "[LTallyLogs$Partition;") (by decide +kernel)) (fun _ h9 => h9) rfl dX5_settle_42 ?_
          refine W.eq (g2 := F0 m 45 ls [.ref (v 1)]) (by rw [hC.1.2.2.1.1]) ?_
          refine lv_iload_n hx hb dX5_settle_45 rfl (lv_at hl 0 rfl) ?_
          by_cases hth680082 : sz680007_1.1 2 1 = 0
          · have hq680082 : Q680074 (v 1) (1 : Int32).toNatClampNeg = none := by rw [show (1 : Int32).toNatClampNeg = 1 by decide]; exact (hE.pt 1 (by decide)).1 hth680082
            obtain ⟨j680083, hj680083⟩ := pG_10 (cy := cy) (N := N) (T := T) (I := I680074) (Q := Q680074) (J := J680074) (hC.at 1 (by decide)) (hC.k 1 (by decide) rfl)
            refine va_aldq hx hb hK hP j680083 3 hj680083 rfl (by unfold vp_in; decide) dX5_settle_46 ?_
            refine W.eq (g2 := F0 m 47 ls [.null]) (by rw [hq680082]; rfl) ?_
            refine lv_aload_n hx hb dX5_settle_47 rfl (lv_at hl 1 rfl) ?_
            have hFc := pfree hD hS hA
            refine va_calli (va_runS (As := [.null, .ref (v (4 + j680003))]) (rest := []) ⟨hx, hb, hml, hown, hts⟩ (g_X5_markEnd0 l dC dI cy v L K N T I680074 Q680074 J680074 H.size pa ra (kxo σ) sz680007_1 j680003 hE hj680003) (va_cwS 2 hts gX5_settle_X5_markEnd rfl rfl rfl (by decide +kernel) ⟨Nat.le_of_ble_eq_true rfl, Nat.le_of_ble_eq_true rfl⟩) ⟨pw_blind, fun U hU hW => ⟨rfl, pw_pre hP hK hN hD hU hW⟩⟩ rfl rfl hl.1 rfl (lv_room (Nat.le_of_ble_eq_true rfl)) dX5_settle_48 ⟨Nat.le_of_ble_eq_true rfl, Nat.le_of_ble_eq_true rfl⟩) hS (fun q _ h => hFc q h) hFc (fun r680085 d9 t H1 locs ht hvm hw hB hz1 hk1 hS => ?_)
            obtain ⟨L, K, T, I680084, Q680084, J680084⟩ := d9
            obtain ⟨hE9n, hr680085⟩ := hw
            have hr680085 : r680085 = 0 := hr680085
            obtain ⟨hP, hK1, hD1⟩ := hB
            rw [ht] at hP
            have hD := hD1.weaken (fun _ _ _ h => hFc _ h)
            generalize H1 = H at hP hS ⊢
            have hP : va_P (dC, dI) vwCl (va_pl L (pF cy K N T I680084 Q680084 J680084)) H := hP
            have hD : va_D A (va_pl L (pF cy K N T I680084 Q680084 J680084)) := hD
            have hR : RS v I680084 Q680084 J680084 I680084 Q680084 J680084 := RS.rf
            have hE : REP v pa ra L K N T I680084 Q680084 J680084 (kxo σ) sz680007_1 := hE9n
            have hC := hE.ct
            refine W.widen (k := 2) (n := 16) (by omega) (by omega) ?_
            refine lv_if_eq (tgt := 68) hx hb dX5_settle_51 (by decide) (fun c680086 => ?_) (fun c680086 => ?_)
            rotate_left
            · exact absurd hr680085 c680086
            refine lv_iinc (v := 2) (lv' := [(3, .int 2), (2, .ref (v (4 + j680003))), (0, .ref (v 0)), (1, .int xk)]) hx hb dX5_settle_68 hl (k := 0) rfl (by decide) (by decide) rfl (fun ls hl => ?_)
            refine lv_goto (tgt := 25) hx hb dX5_settle_71 (by decide) ?_
            refine W.widen (k := 2) (n := 16) (by omega) (by omega) ?_
            exact hU680007_2 _ _ _ _ _ _ _ _ _ _ (by show sz680007_1 = oS1 (oSn σ j680003 1) j680003 1; rw [← hsz, oS1_n hth680082 (hSKz.1 1 (by decide))]) hE hP hD hS (lv_sub hl [0, 1, 2, 3] rfl)
          · have hq680082 : Q680074 (v 1) (1 : Int32).toNatClampNeg = some (pa 1) := by rw [show (1 : Int32).toNatClampNeg = 1 by decide]; exact hE.pq (by decide) hth680082
            obtain ⟨j680087, hj680087⟩ := pG_10 (cy := cy) (N := N) (T := T) (I := I680074) (Q := Q680074) (J := J680074) (hC.at 1 (by decide)) (hC.k 1 (by decide) rfl)
            refine va_aldq hx hb hK hP j680087 3 hj680087 rfl (by unfold vp_in; decide) dX5_settle_46 ?_
            refine W.eq (g2 := F0 m 47 ls [.ref (pa 1)]) (by rw [hq680082]; rfl) ?_
            refine lv_aload_n hx hb dX5_settle_47 rfl (lv_at hl 1 rfl) ?_
            have hFc := pfree hD hS hA
            refine va_calli (va_runS (As := [.ref (pa 1), .ref (v (4 + j680003))]) (rest := []) ⟨hx, hb, hml, hown, hts⟩ (g_X5_markEnd l dC dI cy v L K N T I680074 Q680074 J680074 H.size pa ra (kxo σ) sz680007_1 E 1 j680003 hE (by decide) hth680082 hj680003 hkk.symm hSKz (fun m hm => by rw [hLz 1 m (by omega) (by omega) hm]; exact hLA (5 * 1 + m) (by omega)) hE9 hm9z) (va_cwS 2 hts gX5_settle_X5_markEnd rfl rfl rfl (by decide +kernel) ⟨Nat.le_of_ble_eq_true rfl, Nat.le_of_ble_eq_true rfl⟩) ⟨pw_blind, fun U hU hW => ⟨rfl, pw_pre hP hK hN hD hU hW⟩⟩ rfl rfl hl.1 rfl (lv_room (Nat.le_of_ble_eq_true rfl)) dX5_settle_48 ⟨Nat.le_of_ble_eq_true rfl, Nat.le_of_ble_eq_true rfl⟩) hS (fun q _ h => hFc q h) hFc (fun r680089 d9 t H1 locs ht hvm hw hB hz1 hk1 hS => ?_)
            obtain ⟨L, K, T, I680088, Q680088, J680088⟩ := d9
            obtain ⟨hE9n, hr680089⟩ := hw
            have hr680089 : r680089 = (oMk sz680007_1 1 j680003).2 := hr680089
            obtain ⟨hP, hK1, hD1⟩ := hB
            rw [ht] at hP
            have hD := hD1.weaken (fun _ _ _ h => hFc _ h)
            generalize H1 = H at hP hS ⊢
            have hP : va_P (dC, dI) vwCl (va_pl L (pF cy K N T I680088 Q680088 J680088)) H := hP
            have hD : va_D A (va_pl L (pF cy K N T I680088 Q680088 J680088)) := hD
            have hR : RS v I680088 Q680088 J680088 I680088 Q680088 J680088 := RS.rf
            obtain ⟨sg680090, esg680090⟩ : ∃ z, z = (oMk sz680007_1 1 j680003).1 := ⟨_, rfl⟩
            have hE : REP v pa ra L K N T I680088 Q680088 J680088 (kxo σ) sg680090 := by rw [esg680090]; exact hE9n
            have hC := hE.ct
            refine W.widen (k := 2) (n := 16) (by omega) (by omega) ?_
            refine lv_if_eq (tgt := 68) hx hb dX5_settle_51 (by decide) (fun c680091 => ?_) (fun c680091 => ?_)
            · have kc680091 : r680089.toInt = 0 := by have h9 := c680091; rw [xk_eq, xk_0] at h9; exact h9
              refine lv_iinc (v := 2) (lv' := [(3, .int 2), (2, .ref (v (4 + j680003))), (0, .ref (v 0)), (1, .int xk)]) hx hb dX5_settle_68 hl (k := 0) rfl (by decide) (by decide) rfl (fun ls hl => ?_)
              refine lv_goto (tgt := 25) hx hb dX5_settle_71 (by decide) ?_
              refine W.widen (k := 2) (n := 16) (by omega) (by omega) ?_
              exact hU680007_2 _ _ _ _ _ _ _ _ _ _ (by show sg680090 = oS1 (oSn σ j680003 1) j680003 1; rw [← hsz, oS1_mk0 (sp_cn8_1 (by decide) (by rw [show nI 1 = (1 : Int32) by decide, ← sx680077, ← hr680078]; exact c680079)) (by rw [← hr680089]; exact c680091), esg680090]) hE hP hD hS (lv_sub hl [0, 1, 2, 3] rfl)
            · have kc680091 : ¬ (r680089.toInt = 0) := by have h9 := c680091; rw [xk_eq, xk_0] at h9; exact h9
              refine lv_aload_n hx hb dX5_settle_54 rfl (lv_at hl 1 rfl) ?_
              refine lv_dup hx hb dX5_settle_55 rfl ?_
              obtain ⟨j680092, hj680092⟩ := pG_3 (cy := cy) (N := N) (T := T) (I := I680088) (Q := Q680088) (J := J680088) (hC.kp hj680003).1 (hC.kp hj680003).2
              refine va_get (D := (dC, dI)) (ci := 3) (v := .int (I680088 (v (4 + j680003)) 5)) (C := RX3) (T := TX3) (N := 6) hx hb hts hi3 hown hK hP j680092 hj680092 rfl 5 (by decide) (hts (.fieldLink RX5 126 "TallyLogs$Producer" "left" "I") (by decide +kernel)) (fun _ h9 => h9) rfl dX5_settle_56 ?_
              refine lv_topi (fun x680093 ex680093 => ?_)
              have sx680093 : x680093 = sg680090.1 10 j680003 := ex680093.trans (hE.pr j680003 hj680003).2.2.2.1
              refine lv_iconst (v := 1) hx hb dX5_settle_59 (by decide) ?_
              refine lv_iload_n hx hb dX5_settle_60 rfl (lv_at hl 0 rfl) ?_
              refine lv_ishl hx hb dX5_settle_61 ?_
              refine lv_topi (fun v680094 ev680094 => ?_)
              obtain rfl : v680094 = (2 : Int32) := ev680094.trans (by decide)
              refine lv_iconst (v := (-1)) hx hb dX5_settle_62 (by decide) ?_
              refine lv_ixor hx hb dX5_settle_63 ?_
              refine lv_topi (fun v680095 ev680095 => ?_)
              obtain rfl : v680095 = ((-3) : Int32) := ev680095.trans (by decide)
              refine lv_iand hx hb dX5_settle_64 ?_
              refine lv_topi (fun v680096 ev680096 => ?_)
              obtain ⟨j680097, hj680097⟩ := pG_3 (cy := cy) (N := N) (T := T) (I := I680088) (Q := Q680088) (J := J680088) (hC.kp hj680003).1 (hC.kp hj680003).2
              have hDo := hD
              refine va_put (D := (dC, dI)) (ci := 3) (v := .int v680096) (ty := .int) (C := RX3) (T := TX3) (N := 6) hx hb hts hi3 tyX3 tyX3_ok nmX3 hown hK hP hD hS j680097 hj680097 rfl 5 (by decide) (hts (.fieldLink RX5 126 "TallyLogs$Producer" "left" "I") (by decide +kernel)) (fun _ h9 => h9) rfl (by decide +kernel) rfl rfl (Nat.le_of_ble_eq_true rfl) dX5_settle_65 (fun H locs hP hD hS => ?_)
              have hP := Eq.mp (congrArg (fun w => va_P (dC, dI) vwCl w H) (pP_3_5 (x := v680096) hDo (hC.kp hj680003).1 (hC.kp hj680003).2 hj680097)) hP
              obtain ⟨I680098, eI680098⟩ : ∃ z, z = p2 I680088 (v (4 + j680003)) 5 v680096 := ⟨_, rfl⟩
              rw [← eI680098] at hP
              have hR : RS v I680098 Q680088 J680088 I680098 Q680088 J680088 := RS.rf
              obtain ⟨sg680099, esg680099⟩ : ∃ z, z = sA sg680090 10 j680003 v680096 := ⟨_, rfl⟩
              have hE : REP v pa ra L K N T I680098 Q680088 J680088 (kxo σ) sg680099 := by rw [esg680099, eI680098]; exact hE.wleft hj680003
              have hC : CT v L K N T I680098 Q680088 := by rw [eI680098]; exact hC.pi (by rw [(hC.kp hj680003).2]; decide)
              have hD : va_D A (va_pl L (pF cy K N T I680098 Q680088 J680088)) := pD hDo
              refine lv_iinc (v := 2) (lv' := [(3, .int 2), (2, .ref (v (4 + j680003))), (0, .ref (v 0)), (1, .int xk)]) hx hb dX5_settle_68 hl (k := 0) rfl (by decide) (by decide) rfl (fun ls hl => ?_)
              refine lv_goto (tgt := 25) hx hb dX5_settle_71 (by decide) ?_
              refine W.widen (k := 2) (n := 16) (by omega) (by omega) ?_
              exact hU680007_2 _ _ _ _ _ _ _ _ _ _ (by show sg680099 = oS1 (oSn σ j680003 1) j680003 1; rw [← hsz, oS1_mk1 (sp_cn8_1 (by decide) (by rw [show nI 1 = (1 : Int32) by decide, ← sx680077, ← hr680078]; exact c680079)) (fun z => c680091 (by rw [hr680089]; exact z)), show ((1 : Int32) <<< (nI 1 &&& 31)) ^^^ (-1) = (-3) by decide, esg680099, ev680096, sx680093, esg680090, oMk_10]) hE hP hD hS (lv_sub hl [0, 1, 2, 3] rfl)
      have hU680007_0 : ∀ (Lz : List Nat) (Kz : Nat → Nat) (Tz : Nat → Nat → Nat) (Iz : Nat → Nat → Int32) (Qy : Nat → Nat → Option Nat) (Jz : Nat → Nat → Int32) (sz680007_0 : SG) (H : Heap) (locs : List Loc) (ls : Array Slot), sz680007_0 = oSn σ j680003 0 → REP v pa ra Lz Kz N Tz Iz Qy Jz (kxo σ) sz680007_0 → va_P (dC, dI) vwCl (va_pl Lz (pF cy Kz N Tz Iz Qy Jz)) H → va_D A (va_pl Lz (pF cy Kz N Tz Iz Qy Jz)) → va_S A s.heap H locs → lv_has ls 4 [(3, .int 0), (2, .ref (v (4 + j680003))), (0, .ref (v 0)), (1, .int xk)] → W p l e (headSpec wsX5_settle ({ frames := 4, cells := 4, slots := 32, locals := 88 })).room s m ([.ref (v 0), .int xk] : List Value).toArray below meth c H locs 0 0 Qz (F0 m 25 ls []) := by
        intro L K T I680100 Q680100 J680100 sz680007_0 H locs ls hsz hE hP hD hS hl
        have hC := hE.ct
        have hR : RS v I680100 Q680100 J680100 I680100 Q680100 J680100 := RS.rf
        obtain ⟨hSKz, hTz, hLz⟩ := oSn_k hSK hLA (by omega) hj680003 hm9 0 (by decide)
        rw [← hsz] at hSKz hTz hLz
        have hkk : kxo sz680007_0 = kxo σ := kxo_c (hTz 0 0 (by omega)) (fun q => hTz 4 q (by omega))
        have hm9z : sz680007_0.1 9 j680003 = 2 := (hTz 9 j680003 (by omega)).trans hm9
        refine lv_iload_n hx hb dX5_settle_25 rfl (lv_at hl 0 rfl) ?_
        refine lv_iconst (v := 4) hx hb dX5_settle_26 (by decide) ?_
        refine lv_icmp_ge (tgt := 74) hx hb dX5_settle_27 (by decide) (fun c680101 => ?_) (fun c680101 => ?_)
        · exact absurd c680101 (by decide)
        refine lv_aload_n hx hb dX5_settle_30 rfl (lv_at hl 1 rfl) ?_
        obtain ⟨j680102, hj680102⟩ := pG_3 (cy := cy) (N := N) (T := T) (I := I680100) (Q := Q680100) (J := J680100) (hC.kp hj680003).1 (hC.kp hj680003).2
        refine va_get (D := (dC, dI)) (ci := 3) (v := .int (I680100 (v (4 + j680003)) 5)) (C := RX3) (T := TX3) (N := 6) hx hb hts hi3 hown hK hP j680102 hj680102 rfl 5 (by decide) (hts (.fieldLink RX5 126 "TallyLogs$Producer" "left" "I") (by decide +kernel)) (fun _ h9 => h9) rfl dX5_settle_31 ?_
        refine lv_topi (fun x680103 ex680103 => ?_)
        have sx680103 : x680103 = sz680007_0.1 10 j680003 := ex680103.trans (hE.pr j680003 hj680003).2.2.2.1
        refine lv_iload_n hx hb dX5_settle_34 rfl (lv_at hl 0 rfl) ?_
        refine vp_callSi (W.runS (As := [.int x680103, .int 0]) (rest := []) ⟨hx, hb, hml, hown, hts⟩ (c_X5_contains l x680103 0) (va_cwS 2 hts gX5_settle_X5_contains rfl rfl rfl (by decide +kernel) ⟨Nat.le_of_ble_eq_true rfl, Nat.le_of_ble_eq_true rfl⟩) preEq rfl rfl hl.1 rfl (lv_room (Nat.le_of_ble_eq_true rfl)) dX5_settle_35 ⟨Nat.le_of_ble_eq_true rfl, Nat.le_of_ble_eq_true rfl⟩) (fun r680104 hr680104 => ?_)
        refine lv_if_eq (tgt := 68) hx hb dX5_settle_38 (by decide) (fun c680105 => ?_) (fun c680105 => ?_)
        · have kc680105 : r680104.toInt = 0 := by have h9 := c680105; rw [xk_eq, xk_0] at h9; exact h9
          refine lv_iinc (v := 1) (lv' := [(3, .int 1), (2, .ref (v (4 + j680003))), (0, .ref (v 0)), (1, .int xk)]) hx hb dX5_settle_68 hl (k := 0) rfl (by decide) (by decide) rfl (fun ls hl => ?_)
          refine lv_goto (tgt := 25) hx hb dX5_settle_71 (by decide) ?_
          refine W.widen (k := 1) (n := 8) (by omega) (by omega) ?_
          exact hU680007_1 _ _ _ _ _ _ _ _ _ _ (by show sz680007_0 = oS1 (oSn σ j680003 0) j680003 0; rw [← hsz, oS1_0 (sp_cn8_0 (by decide) (by rw [show nI 0 = (0 : Int32) by decide, ← sx680103, ← hr680104]; exact c680105))]) hE hP hD hS (lv_sub hl [0, 1, 2, 3] rfl)
        · have kc680105 : ¬ (r680104.toInt = 0) := by have h9 := c680105; rw [xk_eq, xk_0] at h9; exact h9
          refine lv_aload_n hx hb dX5_settle_41 rfl (lv_at hl 2 rfl) ?_
          obtain ⟨j680106, hj680106⟩ := pG_5 (cy := cy) (N := N) (T := T) (I := I680100) (Q := Q680100) (J := J680100) (hC.at 0 (by decide)) (hC.k 0 (by decide) rfl)
          refine va_get (D := (dC, dI)) (ci := 5) (v := .ref (T (v 0) 0)) (C := RX5) (T := TX5) (N := 6) hx hb hts hi5 hown hK hP j680106 hj680106 rfl 0 (by decide) (hts (.fieldLink RX5 11 "TallyLogs" "partitions" "[LTallyLogs$Partition;") (by decide +kernel)) (fun _ h9 => h9) rfl dX5_settle_42 ?_
          refine W.eq (g2 := F0 m 45 ls [.ref (v 1)]) (by rw [hC.1.2.2.1.1]) ?_
          refine lv_iload_n hx hb dX5_settle_45 rfl (lv_at hl 0 rfl) ?_
          by_cases hth680108 : sz680007_0.1 2 0 = 0
          · have hq680108 : Q680100 (v 1) (0 : Int32).toNatClampNeg = none := by rw [show (0 : Int32).toNatClampNeg = 0 by decide]; exact (hE.pt 0 (by decide)).1 hth680108
            obtain ⟨j680109, hj680109⟩ := pG_10 (cy := cy) (N := N) (T := T) (I := I680100) (Q := Q680100) (J := J680100) (hC.at 1 (by decide)) (hC.k 1 (by decide) rfl)
            refine va_aldq hx hb hK hP j680109 3 hj680109 rfl (by unfold vp_in; decide) dX5_settle_46 ?_
            refine W.eq (g2 := F0 m 47 ls [.null]) (by rw [hq680108]; rfl) ?_
            refine lv_aload_n hx hb dX5_settle_47 rfl (lv_at hl 1 rfl) ?_
            have hFc := pfree hD hS hA
            refine va_calli (va_runS (As := [.null, .ref (v (4 + j680003))]) (rest := []) ⟨hx, hb, hml, hown, hts⟩ (g_X5_markEnd0 l dC dI cy v L K N T I680100 Q680100 J680100 H.size pa ra (kxo σ) sz680007_0 j680003 hE hj680003) (va_cwS 2 hts gX5_settle_X5_markEnd rfl rfl rfl (by decide +kernel) ⟨Nat.le_of_ble_eq_true rfl, Nat.le_of_ble_eq_true rfl⟩) ⟨pw_blind, fun U hU hW => ⟨rfl, pw_pre hP hK hN hD hU hW⟩⟩ rfl rfl hl.1 rfl (lv_room (Nat.le_of_ble_eq_true rfl)) dX5_settle_48 ⟨Nat.le_of_ble_eq_true rfl, Nat.le_of_ble_eq_true rfl⟩) hS (fun q _ h => hFc q h) hFc (fun r680111 d9 t H1 locs ht hvm hw hB hz1 hk1 hS => ?_)
            obtain ⟨L, K, T, I680110, Q680110, J680110⟩ := d9
            obtain ⟨hE9n, hr680111⟩ := hw
            have hr680111 : r680111 = 0 := hr680111
            obtain ⟨hP, hK1, hD1⟩ := hB
            rw [ht] at hP
            have hD := hD1.weaken (fun _ _ _ h => hFc _ h)
            generalize H1 = H at hP hS ⊢
            have hP : va_P (dC, dI) vwCl (va_pl L (pF cy K N T I680110 Q680110 J680110)) H := hP
            have hD : va_D A (va_pl L (pF cy K N T I680110 Q680110 J680110)) := hD
            have hR : RS v I680110 Q680110 J680110 I680110 Q680110 J680110 := RS.rf
            have hE : REP v pa ra L K N T I680110 Q680110 J680110 (kxo σ) sz680007_0 := hE9n
            have hC := hE.ct
            refine W.widen (k := 1) (n := 8) (by omega) (by omega) ?_
            refine lv_if_eq (tgt := 68) hx hb dX5_settle_51 (by decide) (fun c680112 => ?_) (fun c680112 => ?_)
            rotate_left
            · exact absurd hr680111 c680112
            refine lv_iinc (v := 1) (lv' := [(3, .int 1), (2, .ref (v (4 + j680003))), (0, .ref (v 0)), (1, .int xk)]) hx hb dX5_settle_68 hl (k := 0) rfl (by decide) (by decide) rfl (fun ls hl => ?_)
            refine lv_goto (tgt := 25) hx hb dX5_settle_71 (by decide) ?_
            refine W.widen (k := 1) (n := 8) (by omega) (by omega) ?_
            exact hU680007_1 _ _ _ _ _ _ _ _ _ _ (by show sz680007_0 = oS1 (oSn σ j680003 0) j680003 0; rw [← hsz, oS1_n hth680108 (hSKz.1 0 (by decide))]) hE hP hD hS (lv_sub hl [0, 1, 2, 3] rfl)
          · have hq680108 : Q680100 (v 1) (0 : Int32).toNatClampNeg = some (pa 0) := by rw [show (0 : Int32).toNatClampNeg = 0 by decide]; exact hE.pq (by decide) hth680108
            obtain ⟨j680113, hj680113⟩ := pG_10 (cy := cy) (N := N) (T := T) (I := I680100) (Q := Q680100) (J := J680100) (hC.at 1 (by decide)) (hC.k 1 (by decide) rfl)
            refine va_aldq hx hb hK hP j680113 3 hj680113 rfl (by unfold vp_in; decide) dX5_settle_46 ?_
            refine W.eq (g2 := F0 m 47 ls [.ref (pa 0)]) (by rw [hq680108]; rfl) ?_
            refine lv_aload_n hx hb dX5_settle_47 rfl (lv_at hl 1 rfl) ?_
            have hFc := pfree hD hS hA
            refine va_calli (va_runS (As := [.ref (pa 0), .ref (v (4 + j680003))]) (rest := []) ⟨hx, hb, hml, hown, hts⟩ (g_X5_markEnd l dC dI cy v L K N T I680100 Q680100 J680100 H.size pa ra (kxo σ) sz680007_0 E 0 j680003 hE (by decide) hth680108 hj680003 hkk.symm hSKz (fun m hm => by rw [hLz 0 m (by omega) (by omega) hm]; exact hLA (5 * 0 + m) (by omega)) hE9 hm9z) (va_cwS 2 hts gX5_settle_X5_markEnd rfl rfl rfl (by decide +kernel) ⟨Nat.le_of_ble_eq_true rfl, Nat.le_of_ble_eq_true rfl⟩) ⟨pw_blind, fun U hU hW => ⟨rfl, pw_pre hP hK hN hD hU hW⟩⟩ rfl rfl hl.1 rfl (lv_room (Nat.le_of_ble_eq_true rfl)) dX5_settle_48 ⟨Nat.le_of_ble_eq_true rfl, Nat.le_of_ble_eq_true rfl⟩) hS (fun q _ h => hFc q h) hFc (fun r680115 d9 t H1 locs ht hvm hw hB hz1 hk1 hS => ?_)
            obtain ⟨L, K, T, I680114, Q680114, J680114⟩ := d9
            obtain ⟨hE9n, hr680115⟩ := hw
            have hr680115 : r680115 = (oMk sz680007_0 0 j680003).2 := hr680115
            obtain ⟨hP, hK1, hD1⟩ := hB
            rw [ht] at hP
            have hD := hD1.weaken (fun _ _ _ h => hFc _ h)
            generalize H1 = H at hP hS ⊢
            have hP : va_P (dC, dI) vwCl (va_pl L (pF cy K N T I680114 Q680114 J680114)) H := hP
            have hD : va_D A (va_pl L (pF cy K N T I680114 Q680114 J680114)) := hD
            have hR : RS v I680114 Q680114 J680114 I680114 Q680114 J680114 := RS.rf
            obtain ⟨sg680116, esg680116⟩ : ∃ z, z = (oMk sz680007_0 0 j680003).1 := ⟨_, rfl⟩
            have hE : REP v pa ra L K N T I680114 Q680114 J680114 (kxo σ) sg680116 := by rw [esg680116]; exact hE9n
            have hC := hE.ct
            refine W.widen (k := 1) (n := 8) (by omega) (by omega) ?_
            refine lv_if_eq (tgt := 68) hx hb dX5_settle_51 (by decide) (fun c680117 => ?_) (fun c680117 => ?_)
            · have kc680117 : r680115.toInt = 0 := by have h9 := c680117; rw [xk_eq, xk_0] at h9; exact h9
              refine lv_iinc (v := 1) (lv' := [(3, .int 1), (2, .ref (v (4 + j680003))), (0, .ref (v 0)), (1, .int xk)]) hx hb dX5_settle_68 hl (k := 0) rfl (by decide) (by decide) rfl (fun ls hl => ?_)
              refine lv_goto (tgt := 25) hx hb dX5_settle_71 (by decide) ?_
              refine W.widen (k := 1) (n := 8) (by omega) (by omega) ?_
              exact hU680007_1 _ _ _ _ _ _ _ _ _ _ (by show sg680116 = oS1 (oSn σ j680003 0) j680003 0; rw [← hsz, oS1_mk0 (sp_cn8_1 (by decide) (by rw [show nI 0 = (0 : Int32) by decide, ← sx680103, ← hr680104]; exact c680105)) (by rw [← hr680115]; exact c680117), esg680116]) hE hP hD hS (lv_sub hl [0, 1, 2, 3] rfl)
            · have kc680117 : ¬ (r680115.toInt = 0) := by have h9 := c680117; rw [xk_eq, xk_0] at h9; exact h9
              refine lv_aload_n hx hb dX5_settle_54 rfl (lv_at hl 1 rfl) ?_
              refine lv_dup hx hb dX5_settle_55 rfl ?_
              obtain ⟨j680118, hj680118⟩ := pG_3 (cy := cy) (N := N) (T := T) (I := I680114) (Q := Q680114) (J := J680114) (hC.kp hj680003).1 (hC.kp hj680003).2
              refine va_get (D := (dC, dI)) (ci := 3) (v := .int (I680114 (v (4 + j680003)) 5)) (C := RX3) (T := TX3) (N := 6) hx hb hts hi3 hown hK hP j680118 hj680118 rfl 5 (by decide) (hts (.fieldLink RX5 126 "TallyLogs$Producer" "left" "I") (by decide +kernel)) (fun _ h9 => h9) rfl dX5_settle_56 ?_
              refine lv_topi (fun x680119 ex680119 => ?_)
              have sx680119 : x680119 = sg680116.1 10 j680003 := ex680119.trans (hE.pr j680003 hj680003).2.2.2.1
              refine lv_iconst (v := 1) hx hb dX5_settle_59 (by decide) ?_
              refine lv_iload_n hx hb dX5_settle_60 rfl (lv_at hl 0 rfl) ?_
              refine lv_ishl hx hb dX5_settle_61 ?_
              refine lv_topi (fun v680120 ev680120 => ?_)
              obtain rfl : v680120 = (1 : Int32) := ev680120.trans (by decide)
              refine lv_iconst (v := (-1)) hx hb dX5_settle_62 (by decide) ?_
              refine lv_ixor hx hb dX5_settle_63 ?_
              refine lv_topi (fun v680121 ev680121 => ?_)
              obtain rfl : v680121 = ((-2) : Int32) := ev680121.trans (by decide)
              refine lv_iand hx hb dX5_settle_64 ?_
              refine lv_topi (fun v680122 ev680122 => ?_)
              obtain ⟨j680123, hj680123⟩ := pG_3 (cy := cy) (N := N) (T := T) (I := I680114) (Q := Q680114) (J := J680114) (hC.kp hj680003).1 (hC.kp hj680003).2
              have hDo := hD
              refine va_put (D := (dC, dI)) (ci := 3) (v := .int v680122) (ty := .int) (C := RX3) (T := TX3) (N := 6) hx hb hts hi3 tyX3 tyX3_ok nmX3 hown hK hP hD hS j680123 hj680123 rfl 5 (by decide) (hts (.fieldLink RX5 126 "TallyLogs$Producer" "left" "I") (by decide +kernel)) (fun _ h9 => h9) rfl (by decide +kernel) rfl rfl (Nat.le_of_ble_eq_true rfl) dX5_settle_65 (fun H locs hP hD hS => ?_)
              have hP := Eq.mp (congrArg (fun w => va_P (dC, dI) vwCl w H) (pP_3_5 (x := v680122) hDo (hC.kp hj680003).1 (hC.kp hj680003).2 hj680123)) hP
              obtain ⟨I680124, eI680124⟩ : ∃ z, z = p2 I680114 (v (4 + j680003)) 5 v680122 := ⟨_, rfl⟩
              rw [← eI680124] at hP
              have hR : RS v I680124 Q680114 J680114 I680124 Q680114 J680114 := RS.rf
              obtain ⟨sg680125, esg680125⟩ : ∃ z, z = sA sg680116 10 j680003 v680122 := ⟨_, rfl⟩
              have hE : REP v pa ra L K N T I680124 Q680114 J680114 (kxo σ) sg680125 := by rw [esg680125, eI680124]; exact hE.wleft hj680003
              have hC : CT v L K N T I680124 Q680114 := by rw [eI680124]; exact hC.pi (by rw [(hC.kp hj680003).2]; decide)
              have hD : va_D A (va_pl L (pF cy K N T I680124 Q680114 J680114)) := pD hDo
              refine lv_iinc (v := 1) (lv' := [(3, .int 1), (2, .ref (v (4 + j680003))), (0, .ref (v 0)), (1, .int xk)]) hx hb dX5_settle_68 hl (k := 0) rfl (by decide) (by decide) rfl (fun ls hl => ?_)
              refine lv_goto (tgt := 25) hx hb dX5_settle_71 (by decide) ?_
              refine W.widen (k := 1) (n := 8) (by omega) (by omega) ?_
              exact hU680007_1 _ _ _ _ _ _ _ _ _ _ (by show sg680125 = oS1 (oSn σ j680003 0) j680003 0; rw [← hsz, oS1_mk1 (sp_cn8_1 (by decide) (by rw [show nI 0 = (0 : Int32) by decide, ← sx680103, ← hr680104]; exact c680105)) (fun z => c680117 (by rw [hr680115]; exact z)), show ((1 : Int32) <<< (nI 0 &&& 31)) ^^^ (-1) = (-2) by decide, esg680125, ev680122, sx680119, esg680116, oMk_10]) hE hP hD hS (lv_sub hl [0, 1, 2, 3] rfl)
      refine W.widen (k := 0) (n := 0) (by omega) (by omega) ?_
      exact hU680007_0 _ _ _ _ _ _ σ _ _ _ rfl hE hP hD hS (lv_sub hl [0, 1, 2, 3] rfl)
    · have kc680006 : ¬ (x680005.toInt = 2) := by have h9 := c680006; rw [xk_eq, xk_2] at h9; exact h9
      refine lv_bipush (v := (-2)) hx hb dX5_settle_20 (by decide) ?_
      refine W.widen (k := 4) (n := 32) (by omega) (by omega) ?_
      have e9 : qSt σ xk = (σ, (-2)) := by unfold qSt; rw [if_neg (sp_inl_yes (i := 0) (j := 5) (by decide) (by decide) (by rw [ej680003, nI_toInt (by omega)]; omega)), cj680003, if_pos (fun z => c680006 (by rw [sx680005]; exact z))]
      have hk9 : kxo σ = (kxo σ) := rfl
      exact W.iret (v := (-2)) hx hb hr (fun t ht hW => ⟨⟨(-2), (L, K, T, I, Q, J), rfl, ⟨by show REP v pa ra L K N T I Q J (kxo (qSt σ xk).1) (qSt σ xk).1; rw [e9]; show REP v pa ra L K N T I Q J (kxo σ) σ; rw [hk9]; exact hE, by show _ = _; rw [e9]⟩, by rw [ht]; exact hP, va_K.moved hW.alike hK, hD⟩, hS.F ht⟩) hS.2.2 dX5_settle_22
