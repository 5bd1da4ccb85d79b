theorem oT1_no {s : SG × Int32} {p n : Nat} (h : ¬ bt (s.1.1 7 p) n) : oT1 s p n = s := if_pos (bit_n1 h)
theorem oT1_ld {s : SG × Int32} {p n : Nat} (h : nI n = s.1.1 4 p) : oT1 s p n = s := by
  unfold oT1
  by_cases q : (s.1.1 7 p >>> (nI n &&& 31)) &&& 1 = 0
  · rw [if_pos q]
  · rw [if_neg q, if_pos h]
theorem oT1_in {s : SG × Int32} {p n : Nat} (h : ¬ 10 < s.1.1 0 1 - s.1.2.1 (5 * p + n) 6) : oT1 s p n = s := by
  unfold oT1
  by_cases q : (s.1.1 7 p >>> (nI n &&& 31)) &&& 1 = 0
  · rw [if_pos q]
  · rw [if_neg q]
    by_cases q2 : nI n = s.1.1 4 p
    · rw [if_pos q2]
    · rw [if_neg q2, if_neg h]
theorem oT1_go {s : SG × Int32} {p n : Nat} (h1 : bt (s.1.1 7 p) n) (h2 : ¬ nI n = s.1.1 4 p) (h3 : 10 < s.1.1 0 1 - s.1.2.1 (5 * p + n) 6) : oT1 s p n = (sA s.1 7 p (s.1.1 7 p &&& ((1 <<< (nI n &&& 31)) ^^^ (-1))), s.2 + 1) := by
  unfold oT1
  rw [if_neg (bt_isr.mpr h1), if_neg h2, if_pos h3]
/-- dropLate -/
def oDl (σ : SG) (p : Nat) : SG × Int32 := match oOw σ p with
  | none => (σ, 0)
  | some _ => (oRi (oT2 (σ, 0) p 5).1 p, (oT2 (σ, 0) p 5).2)
theorem oDl_no {σ : SG} {p : Nat} (h : oOw σ p = none) : oDl σ p = (σ, 0) := by unfold oDl; rw [h]
theorem oDl_s {σ : SG} {p j : Nat} (h : oOw σ p = some j) : oDl σ p = (oRi (oT2 (σ, 0) p 5).1 p, (oT2 (σ, 0) p 5).2) := by unfold oDl; rw [h]
set_option maxHeartbeats 4000000 in
set_option maxRecDepth 100000 in
/-- Partition.dropLate, exactly -/
theorem g_X2_dropLate (l : Launch) (dC : Nat → ClassId) (dI : Nat → Nat → Nat) (cy : Nat → ClassId) (v : Nat → Nat) (L : List Nat) (K N : Nat → Nat) (T : Nat → Nat → Nat) (I : Nat → Nat → Int32) (Q : Nat → Nat → Option Nat) (J : Nat → Nat → Int32) (sz : Nat) (pa ra : Nat → Nat) (kx : Nat → Prop) (σ : SG) (Gp : Nat) (nw : Int32) (hE : REP v pa ra L K N T I Q J kx σ) (hp : Gp < 4) (ht9 : ¬ σ.1 2 Gp = 0) (hnw : nw = σ.1 0 1) (hPL : PLd σ Gp) (hsm : ∀ m, m < 5 → bt (σ.1 7 Gp) m → bt (σ.1 3 Gp) m) (hRH : ¬ σ.1 4 Gp < 0 → RHp kx (oT2 (σ, 0) Gp 5).1 Gp) : Met l yX2_dropLate wsX2_dropLate ({ frames := 3, cells := 0, slots := 0, locals := 66 }) (va_Pc [.ref (pa Gp), .int nw] (pW dC dI cy L (pF cy K N T I Q J) sz)) (va_Qi (fun (r : Int32) (d : (Nat → Nat → Int32) × (Nat → Nat → Option Nat) × (Nat → Nat → Int32)) => (REP v pa ra L K N T d.1 d.2.1 d.2.2 kx ((oDl σ Gp).1)) ∧ r = (oDl σ Gp).2) (fun (d : (Nat → Nat → Int32) × (Nat → Nat → Option Nat) × (Nat → Nat → Int32)) t => va_P (dC, dI) vwCl (va_pl L (pF cy K N T d.1 d.2.1 d.2.2)) t.heap ∧ va_K (dC, dI) vwCl (pTy cy) t ∧ va_D (va_A (va_pl L (pF cy K N T I Q J)) sz) (va_pl L (pF cy K N T d.1 d.2.1 d.2.2))) (va_A (va_pl L (pF cy K N T I Q J)) sz)) 0 0 (va_A (va_pl L (pF cy K N T I Q J)) sz) := by
  refine Met.ofW (cc := cX2_dropLate) (maxL := 5) (ret := (some .int)) (by decide) rfl ?_
  intro p e s m args below meth c s₁ B hml hv
  obtain ⟨rfl, hsz, ⟨hP, hK, hN⟩, hD0⟩ := hv
  have hx := B.exec
  have hb := B.bytes
  have hr := B.returns
  have hts := atoms_spec (ws := wsX2_dropLate) B.pre
  have hown : s.vm.findClass RX2 = some m.cls := findClass_of_methodNamed B.named
  have hlocks := B.notSynchronized
  have hi2 : ∀ w ∈ wsX20, w ∈ wsX2_dropLate := by decide +kernel
  have hi4 : ∀ w ∈ wsX40, w ∈ wsX2_dropLate := by decide +kernel
  have hl := lv_entry ([.ref (pa Gp), .int nw]) (n := 5) (Nat.le_of_ble_eq_true rfl)
  rw [lg_entry_eq]
  generalize (lg_sl ([.ref (pa Gp), .int nw]) ++ List.replicate (5 - (lg_sl ([.ref (pa Gp), .int nw])).length) Slot.unset).toArray = ls at hl ⊢
  have hl : lv_has ls 5 [(0, .ref (pa Gp)), (1, .int nw)] := hl
  subst hsz
  have hD := hD0.self (sz := s.heap.size)
  generalize hAe : va_A (va_pl L (pF cy K N T I Q J)) s.heap.size = A at hD ⊢
  have hA : ∀ q : Nat, s.heap.size ≤ q → A q := fun q h => by rw [← hAe]; exact Or.inr h
  have hS : va_S A s.heap s.heap [] := va_S.rf
  have hR : RS v I Q J I Q J := RS.rf
  have hn28 := hN.1
  have hn30 := hN.2.1
  have hn37 := hN.2.2.1
  have hC := hE.ct
  refine lv_aload_n hx hb dX2_dropLate_0 rfl (lv_at hl 0 rfl) ?_
  obtain ⟨j560080, hj560080⟩ := pG_2 (cy := cy) (N := N) (T := T) (I := I) (Q := Q) (J := J) (hE.pL hp ht9).1 (hE.pL hp ht9).2
  refine va_csq (W.runV (As := []) (rest := []) ⟨hx, hb, hml, hown, hts⟩ (g_X2_leading l dC dI cy v L K N T I Q J pa ra kx σ Gp hE hp ht9) (cwV 0 hts gX2_dropLate_X2_leading rfl rfl rfl (by decide +kernel) ⟨Nat.le_of_ble_eq_true rfl, Nat.le_of_ble_eq_true rfl⟩) ⟨pb_blind, va_recv hK hP (ci := 2) (q0 := j560080) rfl hj560080, fun U hU hW => ⟨rfl, pb_pre hP hK hN hU hW⟩⟩ rfl rfl hl.1 rfl (lv_room (Nat.le_of_ble_eq_true rfl)) dX2_dropLate_1 ⟨Nat.le_of_ble_eq_true rfl, Nat.le_of_ble_eq_true rfl⟩) (fun r560079 hr560079 => ?_)
  rcases hr560079 with ⟨rfl, hno560081⟩ | ⟨n560081, hn560081, en560081, hl560081, rfl⟩
  · refine W.eq (g2 := F0 m 4 ls [.null]) rfl ?_
    refine lv_ifnonnullN hx hb dX2_dropLate_4 ?_
    refine lv_iconst (v := 0) hx hb dX2_dropLate_7 (by decide) ?_
    exact W.iret (v := 0) hx hb hr (fun t ht hW => ⟨⟨0, (I, Q, J), rfl, ⟨by show REP v pa ra L K N T I Q J kx (oDl σ Gp).1; rw [oDl_no (hPL.no hno560081)]; exact hE, by show _ = _; rw [oDl_no (hPL.no hno560081)]⟩, by rw [ht]; exact hP, va_K.moved hW.alike hK, hD⟩, hS.F ht⟩) hS.2.2 dX2_dropLate_8
  · refine W.eq (g2 := F0 m 4 ls [.ref (ra (5 * Gp + n560081))]) rfl ?_
    have hst560081 := hPL.at hn560081 en560081
    refine lv_ifnonnull (tgt := 9) hx hb dX2_dropLate_4 (by decide) ?_
    refine lv_iconst (v := 0) hx hb dX2_dropLate_9 (by decide) ?_
    refine lv_istore_n (lv' := [(2, .int 0), (0, .ref (pa Gp)), (1, .int nw)]) hx hb dX2_dropLate_10 rfl hl (by decide) rfl (fun ls hl => ?_)
    refine lv_iconst (v := 0) hx hb dX2_dropLate_11 (by decide) ?_
    refine lv_istore_n (lv' := [(3, .int 0), (2, .int 0), (0, .ref (pa Gp)), (1, .int nw)]) hx hb dX2_dropLate_12 rfl hl (by decide) rfl (fun ls hl => ?_)
    refine wq_gen (fun Qz hQz => ?_)
    have hLP560082 : ∀ (n k560082 : Nat) (y560083 : Int32) (Ia560082 : Nat → Nat → Int32) (Qa560082 : Nat → Nat → Option Nat) (Ja560082 : Nat → Nat → Int32) (H : Heap) (locs : List Loc) (ls : Array Slot), k560082 + n = 5 → (y560083 = (oT2 (σ, 0) Gp k560082).2) → REP v pa ra L K N T Ia560082 Qa560082 Ja560082 kx ((oT2 (σ, 0) Gp k560082).1) → va_P (dC, dI) vwCl (va_pl L (pF cy K N T Ia560082 Qa560082 Ja560082)) H → va_D A (va_pl L (pF cy K N T Ia560082 Qa560082 Ja560082)) → va_S A s.heap H locs → lv_has ls 5 [(3, .int (nI k560082)), (2, .int y560083), (0, .ref (pa Gp)), (1, .int nw)] → W p l e (headSpec wsX2_dropLate ({ frames := 3, cells := 0, slots := 0, locals := 66 })).room s m ([.ref (pa Gp), .int nw] : List Value).toArray below meth c H locs 0 0 Qz (F0 m 13 ls []) := by
      intro n
      induction n with
      | zero =>
        intro k560082 y560083 Ia560082 Qa560082 Ja560082 H locs ls hkn560082 hiv560082 hE hP hD hS hl
        have hkN560082 : k560082 = 5 := by omega
        have hC := hE.ct
        have hR : RS v Ia560082 Qa560082 Ja560082 Ia560082 Qa560082 Ja560082 := RS.rf
        have hfr : (oT2 (σ, 0) Gp k560082).1.2 = σ.2 ∧ (∀ i q, ¬ (i = 7 ∧ q = Gp) → (oT2 (σ, 0) Gp k560082).1.1 i q = σ.1 i q) ∧ ∀ m, bt ((oT2 (σ, 0) Gp k560082).1.1 7 Gp) m → bt (σ.1 7 Gp) m := oT2_fr (σ, 0) Gp k560082
        have ht9 : ¬ (oT2 (σ, 0) Gp k560082).1.1 2 Gp = 0 := by rw [hfr.2.1 2 Gp (by omega)]; exact ht9
        have h5 : oT2 (σ, 0) Gp 5 = oT2 (σ, 0) Gp k560082 := by rw [hkN560082]
        have hRH9 : RHp kx (oT2 (σ, 0) Gp k560082).1 Gp := by rw [← h5]; exact hRH (by rw [en560081]; exact nI_pos (by omega))
        refine lv_iload_n hx hb dX2_dropLate_13 rfl (lv_at hl 0 rfl) ?_
        refine lv_iconst (v := 5) hx hb dX2_dropLate_14 (by decide) ?_
        refine lv_icmp_ge (tgt := 85) hx hb dX2_dropLate_15 (by decide) (fun c560084 => ?_) (fun c560084 => ?_)
        rotate_left
        · exact absurd (by rw [hkN560082]; decide) c560084
        refine lv_aload_n hx hb dX2_dropLate_85 rfl (lv_at hl 2 rfl) ?_
        obtain ⟨j560085, hj560085⟩ := pG_2 (cy := cy) (N := N) (T := T) (I := Ia560082) (Q := Qa560082) (J := Ja560082) (hE.pL hp ht9).1 (hE.pL hp ht9).2
        have hFc := pfree hD hS hA
        refine va_callv (va_runV (As := []) (rest := []) ⟨hx, hb, hml, hown, hts⟩ (g_X2_raiseHw l dC dI cy v L K N T Ia560082 Qa560082 Ja560082 H.size pa ra kx ((oT2 (σ, 0) Gp k560082).1) Gp hE hp ht9 hRH9.1 hRH9.2.1 hRH9.2.2.1 hRH9.2.2.2) (cwV 0 hts gX2_dropLate_X2_raiseHw rfl rfl rfl (by decide +kernel) ⟨Nat.le_of_ble_eq_true rfl, Nat.le_of_ble_eq_true rfl⟩) ⟨pw_blind, va_recv hK hP (ci := 2) (q0 := j560085) rfl hj560085, fun U hU hW => ⟨rfl, pw_pre hP hK hN hD hU hW⟩⟩ rfl rfl hl.1 rfl (lv_room (Nat.le_of_ble_eq_true rfl)) dX2_dropLate_86 ⟨Nat.le_of_ble_eq_true rfl, Nat.le_of_ble_eq_true rfl⟩) hS (fun q _ h => hFc q h) hFc (fun d9 t H1 locs ht hvm hw hB hz1 hk1 hS => ?_)
        obtain ⟨I560086, Q560086, J560086⟩ := d9
        obtain ⟨hP, hK1, hD1⟩ := hB
        rw [ht] at hP
        have hD := hD1.weaken (fun _ _ _ h => hFc _ h)
        generalize H1 = H at hP hS ⊢
        have hP : va_P (dC, dI) vwCl (va_pl L (pF cy K N T I560086 Q560086 J560086)) H := hP
        have hD : va_D A (va_pl L (pF cy K N T I560086 Q560086 J560086)) := hD
        have hR : RS v I560086 Q560086 J560086 I560086 Q560086 J560086 := RS.rf
        obtain ⟨sg560088, esg560088⟩ : ∃ z, z = oRi ((oT2 (σ, 0) Gp k560082).1) Gp := ⟨_, rfl⟩
        have hE : REP v pa ra L K N T I560086 Q560086 J560086 kx sg560088 := by rw [esg560088]; exact hw
        have hC := hE.ct
        have h1sg560088 : sg560088.1 = ((oT2 (σ, 0) Gp k560082).1).1 := by rw [esg560088]; exact oRi_1 _ _
        have ht9 : ¬ sg560088.1 2 Gp = 0 := by rw [h1sg560088]; exact ht9
        refine lv_iload_n hx hb dX2_dropLate_89 rfl (lv_at hl 1 rfl) ?_
        rw [hQz]
        exact W.iret (v := y560083) hx hb hr (fun t ht hW => ⟨⟨y560083, (I560086, Q560086, J560086), rfl, ⟨by show REP v pa ra L K N T I560086 Q560086 J560086 kx (oDl σ Gp).1; rw [oDl_s (oOw_c hn560081 en560081 hst560081.2), h5, ← esg560088]; exact hE, by show _ = _; rw [oDl_s (oOw_c hn560081 en560081 hst560081.2), h5]; exact hiv560082⟩, by rw [ht]; exact hP, va_K.moved hW.alike hK, hD⟩, hS.F ht⟩) hS.2.2 dX2_dropLate_90
      | succ n ih560082 =>
        intro k560082 y560083 Ia560082 Qa560082 Ja560082 H locs ls hkn560082 hiv560082 hE hP hD hS hl
        have hk9560082 : k560082 < 5 := by omega
        have hkc560082 : (nI k560082).toNatClampNeg = k560082 := nI_clamp (by omega)
        have hki560082 : vp_in (nI k560082) 5 := nI_in (by omega) (by decide)
        have hC := hE.ct
        have hR : RS v Ia560082 Qa560082 Ja560082 Ia560082 Qa560082 Ja560082 := RS.rf
        have hfr : (oT2 (σ, 0) Gp k560082).1.2 = σ.2 ∧ (∀ i q, ¬ (i = 7 ∧ q = Gp) → (oT2 (σ, 0) Gp k560082).1.1 i q = σ.1 i q) ∧ ∀ m, bt ((oT2 (σ, 0) Gp k560082).1.1 7 Gp) m → bt (σ.1 7 Gp) m := oT2_fr (σ, 0) Gp k560082
        have ht9 : ¬ (oT2 (σ, 0) Gp k560082).1.1 2 Gp = 0 := by rw [hfr.2.1 2 Gp (by omega)]; exact ht9
        refine lv_iload_n hx hb dX2_dropLate_13 rfl (lv_at hl 0 rfl) ?_
        refine lv_iconst (v := 5) hx hb dX2_dropLate_14 (by decide) ?_
        refine lv_icmp_ge (tgt := 85) hx hb dX2_dropLate_15 (by decide) (fun c560089 => ?_) (fun c560089 => ?_)
        · exact absurd c560089 (nI_ge (b := 5) (by omega) (by decide))
        refine lv_aload_n hx hb dX2_dropLate_18 rfl (lv_at hl 2 rfl) ?_
        obtain ⟨j560090, hj560090⟩ := pG_2 (cy := cy) (N := N) (T := T) (I := Ia560082) (Q := Qa560082) (J := Ja560082) (hE.pL hp ht9).1 (hE.pL hp ht9).2
        refine va_get (D := (dC, dI)) (ci := 2) (v := .ref (T (pa Gp) 2)) (C := RX2) (T := TX2) (N := 6) hx hb hts hi2 hown hK hP j560090 hj560090 rfl 2 (by decide) (hts (.fieldLink RX2 11 "TallyLogs$Partition" "replicas" "[LTallyLogs$Replica;") (by decide +kernel)) (fun _ h9 => h9) rfl dX2_dropLate_19 ?_
        obtain ⟨t560091, et560091⟩ : ∃ t, t = T (pa Gp) 2 := ⟨_, rfl⟩
        have hLt560091 : t560091 ∈ L := by rw [et560091]; exact (hC.2.2.2.2.1 (pa Gp) (hE.pL hp ht9).1 (hE.pL hp ht9).2).1
        have hkt560091 : K t560091 = 12 := by rw [et560091]; exact (hC.2.2.2.2.1 (pa Gp) (hE.pL hp ht9).1 (hE.pL hp ht9).2).2
        refine W.eq (g2 := F0 m 22 ls [.ref t560091]) (by rw [et560091]) ?_
        refine lv_iload_n hx hb dX2_dropLate_22 rfl (lv_at hl 0 rfl) ?_
        by_cases hbt560092 : bt (((oT2 (σ, 0) Gp k560082).1).1 3 Gp) k560082
        · have hlk560092 : lvj ((oT2 (σ, 0) Gp k560082).1) Gp k560082 := ⟨ht9, hbt560092⟩
          have hq560092 : Qa560082 t560091 (nI k560082).toNatClampNeg = some (ra (5 * Gp + k560082)) := by rw [et560091, hkc560082]; exact hE.rq hp hk9560082 hlk560092
          obtain ⟨j560093, hj560093⟩ := pG_12 (cy := cy) (N := N) (T := T) (I := Ia560082) (Q := Qa560082) (J := Ja560082) hLt560091 hkt560091
          refine va_aldq hx hb hK hP j560093 5 hj560093 rfl hki560082 dX2_dropLate_23 ?_
          refine W.eq (g2 := F0 m 24 ls [.ref (ra (5 * Gp + k560082))]) (by rw [hq560092]; rfl) ?_
          refine lv_astore (lv' := [(4, .ref (ra (5 * Gp + k560082))), (3, .int (nI k560082)), (2, .int y560083), (0, .ref (pa Gp)), (1, .int nw)]) hx hb dX2_dropLate_24 hl (by decide) rfl (fun ls hl => ?_)
          refine lv_aload hx hb dX2_dropLate_26 (lv_at hl 0 rfl) ?_
          refine lv_ifnull hx hb dX2_dropLate_28 ?_
          refine lv_iload_n hx hb dX2_dropLate_31 rfl (lv_at hl 1 rfl) ?_
          refine lv_aload_n hx hb dX2_dropLate_32 rfl (lv_at hl 3 rfl) ?_
          obtain ⟨j560094, hj560094⟩ := pG_2 (cy := cy) (N := N) (T := T) (I := Ia560082) (Q := Qa560082) (J := Ja560082) (hE.pL hp ht9).1 (hE.pL hp ht9).2
          refine va_get (D := (dC, dI)) (ci := 2) (v := .int (Ia560082 (pa Gp) 3)) (C := RX2) (T := TX2) (N := 6) hx hb hts hi2 hown hK hP j560094 hj560094 rfl 3 (by decide) (hts (.fieldLink RX2 34 "TallyLogs$Partition" "leader" "I") (by decide +kernel)) (fun _ h9 => h9) rfl dX2_dropLate_33 ?_
          refine lv_topi (fun x560095 ex560095 => ?_)
          have sx560095 : x560095 = ((oT2 (σ, 0) Gp k560082).1).1 4 Gp := ex560095.trans ((hE.pt Gp hp).2 ht9).2.1.2.2.1
          refine lv_icmp_eq (tgt := 79) hx hb dX2_dropLate_36 (by decide) (fun c560096 => ?_) (fun c560096 => ?_)
          · have kc560096 : (nI k560082).toInt = x560095.toInt := by have h9 := c560096; rw [xk_eq] at h9; exact h9
            obtain ⟨v560097, ev560097⟩ : ∃ y : Int32, y = (nI k560082) + Int32.ofInt 1 := ⟨_, rfl⟩
            refine lv_iinc (v := v560097) (lv' := [(3, .int v560097), (4, .ref (ra (5 * Gp + k560082))), (2, .int y560083), (0, .ref (pa Gp)), (1, .int nw)]) hx hb dX2_dropLate_79 hl (k := 1) rfl ev560097.symm (by decide) rfl (fun ls hl => ?_)
            refine lv_goto (tgt := 13) hx hb dX2_dropLate_82 (by decide) ?_
            obtain rfl : v560097 = nI (k560082 + 1) := ev560097.trans (nI_add k560082 1)
            have ho9 : oT2 (σ, 0) Gp (k560082 + 1) = (oT2 (σ, 0) Gp k560082) := by show oT1 (oT2 (σ, 0) Gp k560082) Gp k560082 = _; exact oT1_ld (c560096.trans sx560095)
            exact ih560082 (k560082 + 1) _ _ _ _ _ _ _ (by omega) (by rw [ho9]; exact hiv560082) (by rw [ho9]; exact hE) hP hD hS (lv_sub hl [0, 2, 3, 4] rfl)
          · have kc560096 : ¬ ((nI k560082).toInt = x560095.toInt) := by have h9 := c560096; rw [xk_eq] at h9; exact h9
            refine lv_aload_n hx hb dX2_dropLate_39 rfl (lv_at hl 3 rfl) ?_
            obtain ⟨j560098, hj560098⟩ := pG_2 (cy := cy) (N := N) (T := T) (I := Ia560082) (Q := Qa560082) (J := Ja560082) (hE.pL hp ht9).1 (hE.pL hp ht9).2
            refine va_get (D := (dC, dI)) (ci := 2) (v := .int (Ia560082 (pa Gp) 5)) (C := RX2) (T := TX2) (N := 6) hx hb hts hi2 hown hK hP j560098 hj560098 rfl 5 (by decide) (hts (.fieldLink RX2 27 "TallyLogs$Partition" "inStep" "I") (by decide +kernel)) (fun _ h9 => h9) rfl dX2_dropLate_40 ?_
            refine lv_topi (fun x560099 ex560099 => ?_)
            have sx560099 : x560099 = ((oT2 (σ, 0) Gp k560082).1).1 7 Gp := ex560099.trans ((hE.pt Gp hp).2 ht9).2.1.2.2.2.2
            refine lv_iload_n hx hb dX2_dropLate_43 rfl (lv_at hl 1 rfl) ?_
            refine vp_callSi (va_Run.run (va_runSN (As := [.int x560099, .int (nI k560082)]) (rest := []) ⟨hx, hb, hml, hown, hts⟩ (c_X5_contains l x560099 (nI k560082)) ⟨va_cnB 2 hts gX2_dropLate_X5_contains_n37 rfl rfl rfl hn37 (hts (.initialized RX5) (by decide +kernel)) (by decide +kernel) ⟨Nat.le_of_ble_eq_true rfl, Nat.le_of_ble_eq_true rfl⟩, hts (.static yX5_contains) (by decide +kernel), trivial⟩ preEq rfl rfl hl.1 rfl (lv_room (Nat.le_of_ble_eq_true rfl)) dX2_dropLate_44 ⟨Nat.le_of_ble_eq_true rfl, Nat.le_of_ble_eq_true rfl⟩)) (fun r560100 hr560100 => ?_)
            refine lv_if_eq (tgt := 79) hx hb dX2_dropLate_47 (by decide) (fun c560101 => ?_) (fun c560101 => ?_)
            · have kc560101 : r560100.toInt = 0 := by have h9 := c560101; rw [xk_eq, xk_0] at h9; exact h9
              obtain ⟨v560102, ev560102⟩ : ∃ y : Int32, y = (nI k560082) + Int32.ofInt 1 := ⟨_, rfl⟩
              refine lv_iinc (v := v560102) (lv' := [(3, .int v560102), (4, .ref (ra (5 * Gp + k560082))), (2, .int y560083), (0, .ref (pa Gp)), (1, .int nw)]) hx hb dX2_dropLate_79 hl (k := 1) rfl ev560102.symm (by decide) rfl (fun ls hl => ?_)
              refine lv_goto (tgt := 13) hx hb dX2_dropLate_82 (by decide) ?_
              obtain rfl : v560102 = nI (k560082 + 1) := ev560102.trans (nI_add k560082 1)
              have ho9 : oT2 (σ, 0) Gp (k560082 + 1) = (oT2 (σ, 0) Gp k560082) := by show oT1 (oT2 (σ, 0) Gp k560082) Gp k560082 = _; exact oT1_no (sp_cn8_0 (by omega) (by rw [← sx560099, ← hr560100]; exact c560101))
              exact ih560082 (k560082 + 1) _ _ _ _ _ _ _ (by omega) (by rw [ho9]; exact hiv560082) (by rw [ho9]; exact hE) hP hD hS (lv_sub hl [0, 2, 3, 4] rfl)
            · have kc560101 : ¬ (r560100.toInt = 0) := by have h9 := c560101; rw [xk_eq, xk_0] at h9; exact h9
              refine lv_iload_n hx hb dX2_dropLate_50 rfl (lv_at hl 4 rfl) ?_
              refine lv_aload hx hb dX2_dropLate_51 (lv_at hl 0 rfl) ?_
              obtain ⟨j560103, hj560103⟩ := pG_4 (cy := cy) (N := N) (T := T) (I := Ia560082) (Q := Qa560082) (J := Ja560082) (hE.rL hp hk9560082 hlk560092).1 (hE.rL hp hk9560082 hlk560092).2
              refine va_get (D := (dC, dI)) (ci := 4) (v := .int (Ia560082 (ra (5 * Gp + k560082)) 6)) (C := RX4) (T := TX4) (N := 7) hx hb hts hi4 hown hK hP j560103 hj560103 rfl 6 (by decide) (hts (.fieldLink RX2 72 "TallyLogs$Replica" "caught" "I") (by decide +kernel)) (fun _ h9 => h9) rfl dX2_dropLate_53 ?_
              refine lv_topi (fun x560104 ex560104 => ?_)
              have sx560104 : x560104 = ((oT2 (σ, 0) Gp k560082).1).2.1 (5 * Gp + k560082) 6 := ex560104.trans (hE.g hp hk9560082 hlk560092 (by decide) (by decide) (by decide))
              have ux560104 := sx560104
              have tx560104 : x560104.toInt = (((oT2 (σ, 0) Gp k560082).1).2.1 (5 * Gp + k560082) 6).toInt := congrArg Int32.toInt sx560104
              refine lv_isub hx hb dX2_dropLate_56 ?_
              refine lv_topi (fun v560105 ev560105 => ?_)
              refine lv_bipush (v := 10) hx hb dX2_dropLate_57 (by decide) ?_
              refine lv_icmp_le (tgt := 79) hx hb dX2_dropLate_59 (by decide) (fun c560106 => ?_) (fun c560106 => ?_)
              · have kc560106 : v560105.toInt ≤ 10 := by have h9 := c560106; rw [xk_le, (show (10 : Int32).toInt = 10 by decide)] at h9; exact h9
                obtain ⟨v560107, ev560107⟩ : ∃ y : Int32, y = (nI k560082) + Int32.ofInt 1 := ⟨_, rfl⟩
                refine lv_iinc (v := v560107) (lv' := [(3, .int v560107), (4, .ref (ra (5 * Gp + k560082))), (2, .int y560083), (0, .ref (pa Gp)), (1, .int nw)]) hx hb dX2_dropLate_79 hl (k := 1) rfl ev560107.symm (by decide) rfl (fun ls hl => ?_)
                refine lv_goto (tgt := 13) hx hb dX2_dropLate_82 (by decide) ?_
                obtain rfl : v560107 = nI (k560082 + 1) := ev560107.trans (nI_add k560082 1)
                have ho9 : oT2 (σ, 0) Gp (k560082 + 1) = (oT2 (σ, 0) Gp k560082) := by show oT1 (oT2 (σ, 0) Gp k560082) Gp k560082 = _; exact oT1_in (by rw [hfr.2.1 0 1 (by omega)]; have k9 := c560106; rw [ev560105, hnw, sx560104, xk_le] at k9; rw [xk_lt]; omega)
                exact ih560082 (k560082 + 1) _ _ _ _ _ _ _ (by omega) (by rw [ho9]; exact hiv560082) (by rw [ho9]; exact hE) hP hD hS (lv_sub hl [0, 2, 3, 4] rfl)
              · have kc560106 : ¬ (v560105.toInt ≤ 10) := by have h9 := c560106; rw [xk_le, (show (10 : Int32).toInt = 10 by decide)] at h9; exact h9
                refine lv_aload_n hx hb dX2_dropLate_62 rfl (lv_at hl 3 rfl) ?_
                refine lv_dup hx hb dX2_dropLate_63 rfl ?_
                obtain ⟨j560108, hj560108⟩ := pG_2 (cy := cy) (N := N) (T := T) (I := Ia560082) (Q := Qa560082) (J := Ja560082) (hE.pL hp ht9).1 (hE.pL hp ht9).2
                refine va_get (D := (dC, dI)) (ci := 2) (v := .int (Ia560082 (pa Gp) 5)) (C := RX2) (T := TX2) (N := 6) hx hb hts hi2 hown hK hP j560108 hj560108 rfl 5 (by decide) (hts (.fieldLink RX2 27 "TallyLogs$Partition" "inStep" "I") (by decide +kernel)) (fun _ h9 => h9) rfl dX2_dropLate_64 ?_
                refine lv_topi (fun x560109 ex560109 => ?_)
                have sx560109 : x560109 = ((oT2 (σ, 0) Gp k560082).1).1 7 Gp := ex560109.trans ((hE.pt Gp hp).2 ht9).2.1.2.2.2.2
                refine lv_iconst (v := 1) hx hb dX2_dropLate_67 (by decide) ?_
                refine lv_iload_n hx hb dX2_dropLate_68 rfl (lv_at hl 1 rfl) ?_
                refine lv_ishl hx hb dX2_dropLate_69 ?_
                refine lv_topi (fun v560110 ev560110 => ?_)
                refine lv_iconst (v := (-1)) hx hb dX2_dropLate_70 (by decide) ?_
                refine lv_ixor hx hb dX2_dropLate_71 ?_
                refine lv_topi (fun v560111 ev560111 => ?_)
                refine lv_iand hx hb dX2_dropLate_72 ?_
                refine lv_topi (fun v560112 ev560112 => ?_)
                obtain ⟨j560113, hj560113⟩ := pG_2 (cy := cy) (N := N) (T := T) (I := Ia560082) (Q := Qa560082) (J := Ja560082) (hE.pL hp ht9).1 (hE.pL hp ht9).2
                have hDo := hD
                refine va_put (D := (dC, dI)) (ci := 2) (v := .int v560112) (ty := .int) (C := RX2) (T := TX2) (N := 6) hx hb hts hi2 tyX2 tyX2_ok nmX2 hown hK hP hD hS j560113 hj560113 rfl 5 (by decide) (hts (.fieldLink RX2 27 "TallyLogs$Partition" "inStep" "I") (by decide +kernel)) (fun _ h9 => h9) rfl (by decide +kernel) rfl rfl (Nat.le_of_ble_eq_true rfl) dX2_dropLate_73 (fun H locs hP hD hS => ?_)
                have hP := Eq.mp (congrArg (fun w => va_P (dC, dI) vwCl w H) (pP_2_5 (x := v560112) hDo (hE.pL hp ht9).1 (hE.pL hp ht9).2 hj560113)) hP
                obtain ⟨I560114, eI560114⟩ : ∃ z, z = p2 Ia560082 (pa Gp) 5 v560112 := ⟨_, rfl⟩
                rw [← eI560114] at hP
                have hR : RS v I560114 Qa560082 Ja560082 I560114 Qa560082 Ja560082 := RS.rf
                obtain ⟨sg560115, esg560115⟩ : ∃ z, z = sA ((oT2 (σ, 0) Gp k560082).1) 7 Gp v560112 := ⟨_, rfl⟩
                have hE : REP v pa ra L K N T I560114 Qa560082 Ja560082 kx sg560115 := by rw [esg560115, eI560114]; exact hE.wp hp ht9 (by decide)
                have hlk560092 : lvj sg560115 Gp k560082 := by rw [esg560115]; exact lvj_sA hlk560092 (by decide) (by decide)
                have ht9 : ¬ sg560115.1 2 Gp = 0 := by rw [esg560115, sA_n (by decide)]; exact ht9
                have hC : CT v L K N T I560114 Qa560082 := by rw [eI560114]; exact hC.pi (by rw [(hE.pL hp ht9).2]; decide)
                have hD : va_D A (va_pl L (pF cy K N T I560114 Qa560082 Ja560082)) := pD hDo
                obtain ⟨v560116, ev560116⟩ : ∃ y : Int32, y = y560083 + Int32.ofInt 1 := ⟨_, rfl⟩
                refine lv_iinc (v := v560116) (lv' := [(2, .int v560116), (4, .ref (ra (5 * Gp + k560082))), (3, .int (nI k560082)), (0, .ref (pa Gp)), (1, .int nw)]) hx hb dX2_dropLate_76 hl (k := 2) rfl ev560116.symm (by decide) rfl (fun ls hl => ?_)
                obtain ⟨v560117, ev560117⟩ : ∃ y : Int32, y = (nI k560082) + Int32.ofInt 1 := ⟨_, rfl⟩
                refine lv_iinc (v := v560117) (lv' := [(3, .int v560117), (2, .int v560116), (4, .ref (ra (5 * Gp + k560082))), (0, .ref (pa Gp)), (1, .int nw)]) hx hb dX2_dropLate_79 hl (k := 2) rfl ev560117.symm (by decide) rfl (fun ls hl => ?_)
                refine lv_goto (tgt := 13) hx hb dX2_dropLate_82 (by decide) ?_
                obtain rfl : v560117 = nI (k560082 + 1) := ev560117.trans (nI_add k560082 1)
                have ho9 : oT2 (σ, 0) Gp (k560082 + 1) = (sg560115, v560116) := by show oT1 (oT2 (σ, 0) Gp k560082) Gp k560082 = _; rw [oT1_go (sp_cn8_1 (by omega) (by rw [← sx560099, ← hr560100]; exact c560101)) (fun q => c560096 (q.trans sx560095.symm)) (by rw [hfr.2.1 0 1 (by omega)]; have k9 := c560106; rw [ev560105, hnw, sx560104] at k9; rw [xk_le] at k9; rw [xk_lt]; omega), esg560115, ev560112, sx560109, ev560111, ev560110, ev560116, hiv560082]; rfl
                exact ih560082 (k560082 + 1) _ _ _ _ _ _ _ (by omega) (by rw [ho9]) (by rw [ho9]; exact hE) hP hD hS (lv_sub hl [0, 1, 3, 4] rfl)
        · have hq560092 : Qa560082 t560091 (nI k560082).toNatClampNeg = none := by rw [et560091, hkc560082]; exact hE.rn hp hk9560082 ht9 hbt560092
          obtain ⟨j560118, hj560118⟩ := pG_12 (cy := cy) (N := N) (T := T) (I := Ia560082) (Q := Qa560082) (J := Ja560082) hLt560091 hkt560091
          refine va_aldq hx hb hK hP j560118 5 hj560118 rfl hki560082 dX2_dropLate_23 ?_
          refine W.eq (g2 := F0 m 24 ls [.null]) (by rw [hq560092]; rfl) ?_
          refine lv_astoreN (lv' := [(4, .null), (3, .int (nI k560082)), (2, .int y560083), (0, .ref (pa Gp)), (1, .int nw)]) hx hb dX2_dropLate_24 hl (by decide) rfl (fun ls hl => ?_)
          refine lv_aloadN hx hb dX2_dropLate_26 (lv_at hl 0 rfl) ?_
          refine lv_ifnullN (tgt := 79) hx hb dX2_dropLate_28 (by decide) ?_
          obtain ⟨v560119, ev560119⟩ : ∃ y : Int32, y = (nI k560082) + Int32.ofInt 1 := ⟨_, rfl⟩
          refine lv_iinc (v := v560119) (lv' := [(3, .int v560119), (4, .null), (2, .int y560083), (0, .ref (pa Gp)), (1, .int nw)]) hx hb dX2_dropLate_79 hl (k := 1) rfl ev560119.symm (by decide) rfl (fun ls hl => ?_)
          refine lv_goto (tgt := 13) hx hb dX2_dropLate_82 (by decide) ?_
          obtain rfl : v560119 = nI (k560082 + 1) := ev560119.trans (nI_add k560082 1)
          have ho9 : oT2 (σ, 0) Gp (k560082 + 1) = (oT2 (σ, 0) Gp k560082) := by show oT1 (oT2 (σ, 0) Gp k560082) Gp k560082 = _; exact oT1_no (fun q => hbt560092 (by rw [hfr.2.1 3 Gp (by omega)]; exact hsm _ hk9560082 (hfr.2.2 _ q)))
          exact ih560082 (k560082 + 1) _ _ _ _ _ _ _ (by omega) (by rw [ho9]; exact hiv560082) (by rw [ho9]; exact hE) hP hD hS (lv_sub hl [0, 2, 3, 4] rfl)
    exact hLP560082 5 0 _ _ _ _ _ _ _ rfl (rfl) hE hP hD hS (lv_sub hl [0, 1, 2, 3] rfl)
