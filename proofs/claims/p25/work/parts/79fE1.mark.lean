section XK
variable {u : Int32} {σ σ' : SG} {p j k : Nat} {E : Int}
/-- markEnd -/
def oMk (σ : SG) (p k : Nat) : SG × Int32 := match oOw σ p with
  | none => (σ, 0)
  | some j => if σ.2.1 j 2 - σ.2.1 j 1 < 60 then (oRi (oAd σ j (r8 (σ.1 5 p) (σ.1 12 k) (nI k) (σ.1 11 k) (-1) 0 0 0)) p, 1) else (σ, 0)
theorem oMk_no (h : oOw σ p = none) : oMk σ p k = (σ, 0) := by unfold oMk; rw [h]
theorem oMk_s (h : oOw σ p = some j) : oMk σ p k = if σ.2.1 j 2 - σ.2.1 j 1 < 60 then (oRi (oAd σ j (r8 (σ.1 5 p) (σ.1 12 k) (nI k) (σ.1 11 k) (-1) 0 0 0)) p, 1) else (σ, 0) := by unfold oMk; rw [h]
theorem ad_ln {r : Nat → Int32} {i : Nat} (h : LI E (σ.2.1 i)) (hE : E < 1900) (h60 : i = j → (σ.2.1 j 2).toInt < (σ.2.1 j 1).toInt + 60) : LN ((oAd σ j r).2.1 i) := by
  obtain ⟨n0, n1, n2, n3, _⟩ := h
  by_cases e : i = j
  · subst e
    have := h60 rfl
    unfold LN
    rw [oAd_g (fun z => absurd z.2 (by decide)), oAd_e, xaddk (k := 1) (by decide) (by omega) (by omega)]
    omega
  · have e1 : (oAd σ j r).2.1 i = σ.2.1 i := p2_na _ _ e
    rw [e1]
    exact ⟨n0, n1, n2, by omega⟩
/-- a record has come: what raiseHw needs -/
theorem SK.adh (h : SK σ) {n : Nat} (hp : p < 4) (hn : n < 5) (ht : ¬ σ.1 2 p = 0) (hA : ∀ m, m < 5 → LI E (σ.2.1 (5 * p + m))) (hE : E < 1900) (h60 : (σ.2.1 (5 * p + n) 2).toInt < (σ.2.1 (5 * p + n) 1).toInt + 60) {r : Nat → Int32} {kx : Nat → Prop} (hk : kx = kxo σ) : RHp kx (oAd σ (5 * p + n) r) p := by
  subst hk
  have e1 : kxo (oAd σ (5 * p + n) r) = kxo σ := kxo_c rfl (fun _ => rfl)
  rw [← e1]
  exact PI.rh ((h.1 p hp).of rfl rfl rfl rfl (fun z => absurd z ht)) ht (fun m hm => ad_ln (hA m hm) hE (fun e => h60))
theorem oRi_sA10 {k : Nat} {x : Int32} (p : Nat) : oRi (sA σ 10 k x) p = sA (oRi σ p) 10 k x := by
  have ho : oOw (sA σ 10 k x) p = oOw σ p := by unfold oOw; rw [sA_n (by decide), sA_n (by decide)]
  have hl : ∀ n, oLs (sA σ 10 k x) p n = oLs σ p n := by
    intro n
    induction n with
    | zero => rfl
    | succ n ih =>
      show (if bt ((sA σ 10 k x).1 7 p) n then imn (oLs (sA σ 10 k x) p n) (oKn (sA σ 10 k x) p n) else oLs (sA σ 10 k x) p n) = (if bt (σ.1 7 p) n then imn (oLs σ p n) (oKn σ p n) else oLs σ p n)
      have hk : oKn (sA σ 10 k x) p n = oKn σ p n := by unfold oKn; rw [sA_n (by decide), sA_2]
      rw [ih, hk, sA_n (by decide)]
  cases h : oOw σ p with
  | none => rw [oRi_no (ho.trans h), oRi_no h]
  | some j =>
    rw [oRi_s (ho.trans h), oRi_s h, hl, sA_2]
    by_cases h1 : oLs σ p 5 = 2147483647
    · rw [if_pos h1, if_pos h1]
    · rw [if_neg h1, if_neg h1]
      by_cases h2 : σ.2.1 j 3 < oLs σ p 5
      · rw [if_pos h2, if_pos h2]; rfl
      · rw [if_neg h2, if_neg h2]
theorem sp_ih_m1 : sp_ih (-1) = 0 := by decide
end XK
set_option maxHeartbeats 4000000 in
set_option maxRecDepth 100000 in
/-- markEnd of a Partition, exactly -/
theorem g_X5_markEnd (l : Launch) (dC : Nat → ClassId) (dI : Nat → Nat → Nat) (cy : Nat → ClassId) (v : Nat → Nat) (L : List Nat) (K N : Nat → Nat) (T : Nat → Nat → Nat) (I : Nat → Nat → Int32) (Q : Nat → Nat → Option Nat) (J : Nat → Nat → Int32) (sz : Nat) (pa ra : Nat → Nat) (kx : Nat → Prop) (σ : SG) (E : Int) (Gp jk : Nat) (hE : REP v pa ra L K N T I Q J kx σ) (hp : Gp < 4) (ht9 : ¬ σ.1 2 Gp = 0) (hjk : jk < 6) (hkx : kx = kxo σ) (hSK : SK σ) (hLp : ∀ m, m < 5 → LI E (σ.2.1 (5 * Gp + m))) (hE9 : E < 1900) (hm9 : σ.1 9 jk = 2) : Met l yX5_markEnd wsX5_markEnd ({ frames := 3, cells := 1, slots := 8, locals := 66 }) (va_Pc [.ref (pa Gp), .ref (v (4 + jk))] (pW dC dI cy L (pF cy K N T I Q J) sz)) (va_Qi (fun (r : Int32) (d : List Nat × (Nat → Nat) × (Nat → Nat → Nat) × (Nat → Nat → Int32) × (Nat → Nat → Option Nat) × (Nat → Nat → Int32)) => (REP v pa ra d.1 d.2.1 N d.2.2.1 d.2.2.2.1 d.2.2.2.2.1 d.2.2.2.2.2 kx ((oMk σ Gp jk).1)) ∧ r = (oMk σ Gp jk).2) (fun (d : List Nat × (Nat → Nat) × (Nat → Nat → Nat) × (Nat → Nat → Int32) × (Nat → Nat → Option Nat) × (Nat → Nat → Int32)) t => va_P (dC, dI) vwCl (va_pl d.1 (pF cy d.2.1 N d.2.2.1 d.2.2.2.1 d.2.2.2.2.1 d.2.2.2.2.2)) t.heap ∧ va_K (dC, dI) vwCl (pTy cy) t ∧ va_D (va_A (va_pl L (pF cy K N T I Q J)) sz) (va_pl d.1 (pF cy d.2.1 N d.2.2.1 d.2.2.2.1 d.2.2.2.2.1 d.2.2.2.2.2))) (va_A (va_pl L (pF cy K N T I Q J)) sz)) 1 8 (va_A (va_pl L (pF cy K N T I Q J)) sz) := by
  refine Met.ofW (cc := cX5_markEnd) (maxL := 3) (ret := (some .boolean)) (by decide) rfl ?_
  intro p e s m args below meth c s₁ B hml hv
  obtain ⟨rfl, hsz, ⟨hP, hK, hN⟩, hD0⟩ := hv
  have hx := B.exec
  have hb := B.bytes
  have hr := B.returns
  have hts := atoms_spec (ws := wsX5_markEnd) B.pre
  have hown : s.vm.findClass RX5 = some m.cls := findClass_of_methodNamed B.named
  have hlocks := B.notSynchronized
  have hi0 : ∀ w ∈ wsX00, w ∈ wsX5_markEnd := by decide +kernel
  have hi2 : ∀ w ∈ wsX20, w ∈ wsX5_markEnd := by decide +kernel
  have hi3 : ∀ w ∈ wsX30, w ∈ wsX5_markEnd := by decide +kernel
  have hi4 : ∀ w ∈ wsX40, w ∈ wsX5_markEnd := by decide +kernel
  have hl := lv_entry ([.ref (pa Gp), .ref (v (4 + jk))]) (n := 3) (Nat.le_of_ble_eq_true rfl)
  rw [lg_entry_eq]
  generalize (lg_sl ([.ref (pa Gp), .ref (v (4 + jk))]) ++ List.replicate (3 - (lg_sl ([.ref (pa Gp), .ref (v (4 + jk))])).length) Slot.unset).toArray = ls at hl ⊢
  have hl : lv_has ls 3 [(0, .ref (pa Gp)), (1, .ref (v (4 + jk)))] := hl
  subst hsz
  have hD := hD0.self (sz := s.heap.size)
  generalize hAe : va_A (va_pl L (pF cy K N T I Q J)) s.heap.size = A at hD ⊢
  have hA : ∀ q : Nat, s.heap.size ≤ q → A q := fun q h => by rw [← hAe]; exact Or.inr h
  have hS : va_S A s.heap s.heap [] := va_S.rf
  have hR : RS v I Q J I Q J := RS.rf
  have hn28 := hN.1
  have hn30 := hN.2.1
  have hn37 := hN.2.2.1
  have hC := hE.ct
  have hPL := (hSK.1 Gp hp).pl ht9
  have ht9o := ht9
  refine lv_aload_n hx hb dX5_markEnd_0 rfl (lv_at hl 0 rfl) ?_
  refine lv_ifnonnull (tgt := 6) hx hb dX5_markEnd_1 (by decide) ?_
  refine lv_aload_n hx hb dX5_markEnd_6 rfl (lv_at hl 0 rfl) ?_
  obtain ⟨j670002, hj670002⟩ := pG_2 (cy := cy) (N := N) (T := T) (I := I) (Q := Q) (J := J) (hE.pL hp ht9).1 (hE.pL hp ht9).2
  refine va_csq (W.runV (As := []) (rest := []) ⟨hx, hb, hml, hown, hts⟩ (g_X2_leading l dC dI cy v L K N T I Q J pa ra kx σ Gp hE hp ht9) (cwV 0 hts gX5_markEnd_X2_leading rfl rfl rfl (by decide +kernel) ⟨Nat.le_of_ble_eq_true rfl, Nat.le_of_ble_eq_true rfl⟩) ⟨pb_blind, va_recv hK hP (ci := 2) (q0 := j670002) rfl hj670002, fun U hU hW => ⟨rfl, pb_pre hP hK hN hU hW⟩⟩ rfl rfl hl.1 rfl (lv_room (Nat.le_of_ble_eq_true rfl)) dX5_markEnd_7 ⟨Nat.le_of_ble_eq_true rfl, Nat.le_of_ble_eq_true rfl⟩) (fun r670001 hr670001 => ?_)
  rcases hr670001 with ⟨rfl, hno670003⟩ | ⟨n670003, hn670003, en670003, hl670003, rfl⟩
  · refine W.eq (g2 := F0 m 10 ls [.null]) rfl ?_
    have ho670003 := hPL.no hno670003
    refine lv_astore_nN (lv' := [(2, .null), (0, .ref (pa Gp)), (1, .ref (v (4 + jk)))]) hx hb dX5_markEnd_10 rfl hl (by decide) rfl (fun ls hl => ?_)
    refine lv_aload_nN hx hb dX5_markEnd_11 rfl (lv_at hl 0 rfl) ?_
    refine lv_ifnullN (tgt := 22) hx hb dX5_markEnd_12 (by decide) ?_
    refine lv_iconst (v := 0) hx hb dX5_markEnd_22 (by decide) ?_
    refine W.widen (k := 1) (n := 8) (by omega) (by omega) ?_
    exact W.zret (v := 0) hx hb hr (by decide) (fun t ht hW => ⟨⟨0, (L, K, T, I, Q, J), rfl, ⟨by show REP v pa ra L K N T I Q J kx (oMk σ Gp jk).1; rw [oMk_no ho670003]; exact hE, by show _ = _; rw [oMk_no ho670003]⟩, by rw [ht]; exact hP, va_K.moved hW.alike hK, hD⟩, hS.F ht⟩) hS.2.2 dX5_markEnd_23
  · refine W.eq (g2 := F0 m 10 ls [.ref (ra (5 * Gp + n670003))]) rfl ?_
    have hst670003 := hPL.at hn670003 en670003
    have ho670003 := oOw_c hn670003 en670003 hst670003.2
    have hLI670003 := hLp n670003 hn670003
    have hNl670003 := hLI670003.ln (by omega)
    obtain ⟨q1670003, q2670003, q3670003, q4670003, q5670003, q6670003⟩ := id hLI670003
    refine lv_astore_n (lv' := [(2, .ref (ra (5 * Gp + n670003))), (0, .ref (pa Gp)), (1, .ref (v (4 + jk)))]) hx hb dX5_markEnd_10 rfl hl (by decide) rfl (fun ls hl => ?_)
    refine lv_aload_n hx hb dX5_markEnd_11 rfl (lv_at hl 0 rfl) ?_
    refine lv_ifnull hx hb dX5_markEnd_12 ?_
    refine lv_aload_n hx hb dX5_markEnd_15 rfl (lv_at hl 0 rfl) ?_
    obtain ⟨j670005, hj670005⟩ := pG_4 (cy := cy) (N := N) (T := T) (I := I) (Q := Q) (J := J) (hE.rL hp hn670003 hl670003).1 (hE.rL hp hn670003 hl670003).2
    refine vp_callSi (W.runV (As := []) (rest := []) ⟨hx, hb, hml, hown, hts⟩ (g_X4_isFull l dC dI cy v L K N T I Q J pa ra kx σ Gp n670003 hE hp hn670003 hl670003 hNl670003) (cwV 0 hts gX5_markEnd_X4_isFull rfl rfl rfl (by decide +kernel) ⟨Nat.le_of_ble_eq_true rfl, Nat.le_of_ble_eq_true rfl⟩) ⟨pb_blind, va_recv hK hP (ci := 4) (q0 := j670005) rfl hj670005, fun U hU hW => ⟨rfl, pb_pre hP hK hN hU hW⟩⟩ rfl rfl hl.1 rfl (lv_room (Nat.le_of_ble_eq_true rfl)) dX5_markEnd_16 ⟨Nat.le_of_ble_eq_true rfl, Nat.le_of_ble_eq_true rfl⟩) (fun r670004 hr670004 => ?_)
    refine lv_if_eq (tgt := 24) hx hb dX5_markEnd_19 (by decide) (fun c670006 => ?_) (fun c670006 => ?_)
    · have kc670006 : r670004.toInt = 0 := by have h9 := c670006; rw [xk_eq, xk_0] at h9; exact h9
      have hlt : σ.2.1 (5 * Gp + n670003) 2 - σ.2.1 (5 * Gp + n670003) 1 < 60 := by by_cases z : σ.2.1 (5 * Gp + n670003) 2 - σ.2.1 (5 * Gp + n670003) 1 < 60; (exact z); rw [if_neg z] at hr670004; exact absurd (hr670004.symm.trans c670006) (by decide)
      have h60 : (σ.2.1 (5 * Gp + n670003) 2).toInt < (σ.2.1 (5 * Gp + n670003) 1).toInt + 60 := by have z := hlt; rw [xk_lt, xsub (by omega) (by omega), show (60 : Int32).toInt = 60 by decide] at z; omega
      refine lv_aload_n hx hb dX5_markEnd_24 rfl (lv_at hl 0 rfl) ?_
      refine va_new (ci := 0) (fs := [.int 0, .int 0, .int 0, .int 0, .int 0, .int 0, .int 0, .int 0]) (C := RX0) (T := TX0) (N := 8) hx hb hts hi0 tyX0 tyX0_ok hown (hts (.classLink RX5 179 RX0) (by decide +kernel)) (hts (.instantiable RX0 8) (by decide +kernel)) (hts (.initialized RX0) (by decide +kernel)) hK hP hD hS hA rfl (fun j hj => by rcases (show j = 0 ∨ j = 1 ∨ j = 2 ∨ j = 3 ∨ j = 4 ∨ j = 5 ∨ j = 6 ∨ j = 7 by omega) with rfl | rfl | rfl | rfl | rfl | rfl | rfl | rfl <;> rfl) (Nat.le_of_ble_eq_true rfl) (Nat.le_of_ble_eq_true rfl) dX5_markEnd_25 (fun q670007 H hP hD hS => ?_)
      refine W.widen (k := 1) (n := 8) (by omega) (by omega) ?_
      have hE0 := hE
      obtain ⟨L, K, T, I670008, Q670008, ⟨⟨hP, hD, hC⟩, hXe, hIQ⟩, ⟨hLq670007, hkq670007⟩, hnq⟩ := pNew0x hC hP hD
      have hR : RS v I670008 Q670008 J I670008 Q670008 J := RS.rf
      have hE : REP v pa ra L K N T I670008 Q670008 J kx σ := hE0.mv hC (fun b hb => (hXe b hb).2.2.2) (fun b hb => (hIQ b hb).1) (fun b hb => (hIQ b hb).2) (fun _ _ => rfl)
      refine lv_dup hx hb dX5_markEnd_28 rfl ?_
      refine lv_aload_n hx hb dX5_markEnd_29 rfl (lv_at hl 1 rfl) ?_
      obtain ⟨j670009, hj670009⟩ := pG_2 (cy := cy) (N := N) (T := T) (I := I670008) (Q := Q670008) (J := J) (hE.pL hp ht9).1 (hE.pL hp ht9).2
      refine va_get (D := (dC, dI)) (ci := 2) (v := .int (I670008 (pa Gp) 4)) (C := RX2) (T := TX2) (N := 6) hx hb hts hi2 hown hK hP j670009 hj670009 rfl 4 (by decide) (hts (.fieldLink RX5 115 "TallyLogs$Partition" "epoch" "I") (by decide +kernel)) (fun _ h9 => h9) rfl dX5_markEnd_30 ?_
      refine lv_topi (fun x670010 ex670010 => ?_)
      have sx670010 : x670010 = σ.1 5 Gp := ex670010.trans ((hE.pt Gp hp).2 ht9).2.1.2.2.2.1
      refine lv_aload_n hx hb dX5_markEnd_33 rfl (lv_at hl 2 rfl) ?_
      obtain ⟨j670011, hj670011⟩ := pG_3 (cy := cy) (N := N) (T := T) (I := I670008) (Q := Q670008) (J := J) (hC.kp hjk).1 (hC.kp hjk).2
      refine va_get (D := (dC, dI)) (ci := 3) (v := .int (I670008 (v (4 + jk)) 3)) (C := RX3) (T := TX3) (N := 6) hx hb hts hi3 hown hK hP j670011 hj670011 rfl 3 (by decide) (hts (.fieldLink RX5 254 "TallyLogs$Producer" "commits" "Z") (by decide +kernel)) (fun _ h9 => h9) rfl dX5_markEnd_34 ?_
      refine lv_topi (fun x670012 ex670012 => ?_)
      have hcx670012 : (x670012 = 0 ∧ σ.1 12 jk = 2) ∨ (x670012 = 1 ∧ σ.1 12 jk = 1) := by rw [ex670012]; exact ((hE.pr jk hjk).2.2.2.2.2 hm9).2
      refine lv_if_eq (tgt := 44) hx hb dX5_markEnd_37 (by decide) (fun c670013 => ?_) (fun c670013 => ?_)
      · have kc670013 : x670012.toInt = 0 := by have h9 := c670013; rw [xk_eq, xk_0] at h9; exact h9
        refine lv_iconst (v := 2) hx hb dX5_markEnd_44 (by decide) ?_
        refine lv_aload_n hx hb dX5_markEnd_45 rfl (lv_at hl 2 rfl) ?_
        obtain ⟨j670014, hj670014⟩ := pG_3 (cy := cy) (N := N) (T := T) (I := I670008) (Q := Q670008) (J := J) (hC.kp hjk).1 (hC.kp hjk).2
        refine va_get (D := (dC, dI)) (ci := 3) (v := .int (I670008 (v (4 + jk)) 0)) (C := RX3) (T := TX3) (N := 6) hx hb hts hi3 hown hK hP j670014 hj670014 rfl 0 (by decide) (hts (.fieldLink RX5 98 "TallyLogs$Producer" "number" "I") (by decide +kernel)) (fun _ h9 => h9) rfl dX5_markEnd_46 ?_
        refine lv_topi (fun x670015 ex670015 => ?_)
        have sx670015 : x670015 = nI jk := ex670015.trans (hE.pr jk hjk).1
        refine lv_aload_n hx hb dX5_markEnd_49 rfl (lv_at hl 2 rfl) ?_
        obtain ⟨j670016, hj670016⟩ := pG_3 (cy := cy) (N := N) (T := T) (I := I670008) (Q := Q670008) (J := J) (hC.kp hjk).1 (hC.kp hjk).2
        refine va_get (D := (dC, dI)) (ci := 3) (v := .int (I670008 (v (4 + jk)) 4)) (C := RX3) (T := TX3) (N := 6) hx hb hts hi3 hown hK hP j670016 hj670016 rfl 4 (by decide) (hts (.fieldLink RX5 257 "TallyLogs$Producer" "boundGeneration" "I") (by decide +kernel)) (fun _ h9 => h9) rfl dX5_markEnd_50 ?_
        refine lv_topi (fun x670017 ex670017 => ?_)
        have sx670017 : x670017 = σ.1 11 jk := ex670017.trans ((hE.pr jk hjk).2.2.2.2.2 hm9).1
        have hFc := pfree hD hS hA
        refine va_callv (va_runI (As := [.int x670010, .int 2, .int x670015, .int x670017]) (rest := [.ref q670007, .ref (ra (5 * Gp + n670003))]) ⟨hx, hb, hml, hown, hts⟩ (g_X0_init_ l dC dI cy v L K N T I670008 Q670008 J H.size q670007 x670010 2 x670015 x670017 hC hLq670007 hkq670007) (cwI 4 hts gX5_markEnd_X0_init_ rfl rfl rfl (hts (.initialized RX0) (by decide +kernel)) (hts (.methodLink RX5 260 yX0_init_) (by decide +kernel)) (hts (.instanceMethod yX0_init_) (by decide +kernel)) rfl (by decide +kernel) ⟨Nat.le_of_ble_eq_true rfl, Nat.le_of_ble_eq_true rfl⟩) ⟨pw_blind, fun U hU hW => ⟨rfl, pw_pre hP hK hN hD hU hW⟩⟩ rfl rfl hl.1 rfl (lv_room (Nat.le_of_ble_eq_true rfl)) dX5_markEnd_53 ⟨Nat.le_of_ble_eq_true rfl, Nat.le_of_ble_eq_true rfl⟩) hS (fun q _ h => hFc q h) hFc (fun d9 t H1 locs ht hvm hw hB hz1 hk1 hS => ?_)
        obtain ⟨I670018, Q670018, J670018⟩ := d9
        obtain ⟨hC, hIo, hIf, eQ670018, eJ670018⟩ := hw
        have hIo : ∀ b, ¬ b = q670007 → I670018 b = I670008 b := hIo
        have hIf : ∀ f, f < 8 → I670018 q670007 f = r8 x670010 2 x670015 x670017 (-1) 0 0 0 f := hIf
        have eQ670018 : Q670018 = Q670008 := eQ670018
        have eJ670018 : J670018 = J := eJ670018
        obtain ⟨hP, hK1, hD1⟩ := hB
        rw [ht] at hP
        have hD := hD1.weaken (fun _ _ _ h => hFc _ h)
        generalize H1 = H at hP hS ⊢
        have hP : va_P (dC, dI) vwCl (va_pl L (pF cy K N T I670018 Q670018 J670018)) H := hP
        have hD : va_D A (va_pl L (pF cy K N T I670018 Q670018 J670018)) := hD
        have hR : RS v I670018 Q670018 J670018 I670018 Q670018 J670018 := RS.rf
        have hC : CT v L K N T I670018 Q670018 := hC
        have hIQ : ∀ b, b ∈ _ → I670018 b = I b ∧ Q670018 b = Q b := fun b hb => ⟨(hIo b (fun z => hnq (z ▸ hb))).trans (hIQ b hb).1, (congrFun eQ670018 b).trans (hIQ b hb).2⟩
        have hE : REP v pa ra L K N T I670018 Q670018 J670018 kx σ := hE0.mv hC (fun b hb => (hXe b hb).2.2.2) (fun b hb => (hIQ b hb).1) (fun b hb => (hIQ b hb).2) (fun _ _ => by rw [eJ670018])
        obtain ⟨j670019, hj670019⟩ := pG_4 (cy := cy) (N := N) (T := T) (I := I670018) (Q := Q670018) (J := J670018) (hE.rL hp hn670003 hl670003).1 (hE.rL hp hn670003 hl670003).2
        have hFc := pfree hD hS hA
        refine va_callv (va_runV (As := [.ref q670007]) (rest := []) ⟨hx, hb, hml, hown, hts⟩ (g_X4_append l dC dI cy v L K N T I670018 Q670018 J670018 H.size pa ra kx σ Gp n670003 q670007 (r8 (σ.1 5 Gp) (σ.1 12 jk) (nI jk) (σ.1 11 jk) (-1) 0 0 0) hE hp hn670003 hl670003 hNl670003 hLq670007 hkq670007 h60 (fun f hf => by rw [hIf f hf, sx670010, sx670015, sx670017, (hcx670012.elim (fun z => z.2) (fun z => absurd (z.1.symm.trans c670013) (by decide)))])) (cwV 1 hts gX5_markEnd_X4_append rfl rfl rfl (by decide +kernel) ⟨Nat.le_of_ble_eq_true rfl, Nat.le_of_ble_eq_true rfl⟩) ⟨pw_blind, va_recv hK hP (ci := 4) (q0 := j670019) rfl hj670019, fun U hU hW => ⟨rfl, pw_pre hP hK hN hD hU hW⟩⟩ rfl rfl hl.1 rfl (lv_room (Nat.le_of_ble_eq_true rfl)) dX5_markEnd_56 ⟨Nat.le_of_ble_eq_true rfl, Nat.le_of_ble_eq_true rfl⟩) hS (fun q _ h => hFc q h) hFc (fun d9 t H1 locs ht hvm hw hB hz1 hk1 hS => ?_)
        obtain ⟨I670020, Q670020, J670020⟩ := d9
        obtain ⟨hP, hK1, hD1⟩ := hB
        rw [ht] at hP
        have hD := hD1.weaken (fun _ _ _ h => hFc _ h)
        generalize H1 = H at hP hS ⊢
        have hP : va_P (dC, dI) vwCl (va_pl L (pF cy K N T I670020 Q670020 J670020)) H := hP
        have hD : va_D A (va_pl L (pF cy K N T I670020 Q670020 J670020)) := hD
        have hR : RS v I670020 Q670020 J670020 I670020 Q670020 J670020 := RS.rf
        obtain ⟨sg670022, esg670022⟩ : ∃ z, z = oAd σ (5 * Gp + n670003) (r8 (σ.1 5 Gp) (σ.1 12 jk) (nI jk) (σ.1 11 jk) (-1) 0 0 0) := ⟨_, rfl⟩
        have hE : REP v pa ra L K N T I670020 Q670020 J670020 kx sg670022 := by rw [esg670022]; exact hw
        have hC := hE.ct
        have h1sg670022 : sg670022.1 = σ.1 := by rw [esg670022]; exact rfl
        have hl670003 : lvj sg670022 Gp n670003 := by unfold lvj; rw [h1sg670022]; exact hl670003
        have ht9 : ¬ sg670022.1 2 Gp = 0 := by rw [h1sg670022]; exact ht9
        have hRH9 : RHp kx sg670022 Gp := by rw [esg670022]; exact hSK.adh hp hn670003 ht9o hLp hE9 h60 hkx
        refine lv_aload_n hx hb dX5_markEnd_59 rfl (lv_at hl 1 rfl) ?_
        obtain ⟨j670023, hj670023⟩ := pG_2 (cy := cy) (N := N) (T := T) (I := I670020) (Q := Q670020) (J := J670020) (hE.pL hp ht9).1 (hE.pL hp ht9).2
        have hFc := pfree hD hS hA
        refine va_callv (va_runV (As := []) (rest := []) ⟨hx, hb, hml, hown, hts⟩ (g_X2_raiseHw l dC dI cy v L K N T I670020 Q670020 J670020 H.size pa ra kx sg670022 Gp hE hp ht9 hRH9.1 hRH9.2.1 hRH9.2.2.1 hRH9.2.2.2) (cwV 0 hts gX5_markEnd_X2_raiseHw rfl rfl rfl (by decide +kernel) ⟨Nat.le_of_ble_eq_true rfl, Nat.le_of_ble_eq_true rfl⟩) ⟨pw_blind, va_recv hK hP (ci := 2) (q0 := j670023) rfl hj670023, fun U hU hW => ⟨rfl, pw_pre hP hK hN hD hU hW⟩⟩ rfl rfl hl.1 rfl (lv_room (Nat.le_of_ble_eq_true rfl)) dX5_markEnd_60 ⟨Nat.le_of_ble_eq_true rfl, Nat.le_of_ble_eq_true rfl⟩) hS (fun q _ h => hFc q h) hFc (fun d9 t H1 locs ht hvm hw hB hz1 hk1 hS => ?_)
        obtain ⟨I670024, Q670024, J670024⟩ := d9
        obtain ⟨hP, hK1, hD1⟩ := hB
        rw [ht] at hP
        have hD := hD1.weaken (fun _ _ _ h => hFc _ h)
        generalize H1 = H at hP hS ⊢
        have hP : va_P (dC, dI) vwCl (va_pl L (pF cy K N T I670024 Q670024 J670024)) H := hP
        have hD : va_D A (va_pl L (pF cy K N T I670024 Q670024 J670024)) := hD
        have hR : RS v I670024 Q670024 J670024 I670024 Q670024 J670024 := RS.rf
        obtain ⟨sg670026, esg670026⟩ : ∃ z, z = oRi sg670022 Gp := ⟨_, rfl⟩
        have hE : REP v pa ra L K N T I670024 Q670024 J670024 kx sg670026 := by rw [esg670026]; exact hw
        have hC := hE.ct
        have h1sg670026 : sg670026.1 = sg670022.1 := by rw [esg670026]; exact oRi_1 _ _
        have hl670003 : lvj sg670026 Gp n670003 := by unfold lvj; rw [h1sg670026]; exact hl670003
        have ht9 : ¬ sg670026.1 2 Gp = 0 := by rw [h1sg670026]; exact ht9
        refine lv_iconst (v := 1) hx hb dX5_markEnd_63 (by decide) ?_
        refine W.widen (k := 1) (n := 8) (by omega) (by omega) ?_
        exact W.zret (v := 1) hx hb hr (by decide) (fun t ht hW => ⟨⟨1, (L, K, T, I670024, Q670024, J670024), rfl, ⟨by show REP v pa ra L K N T I670024 Q670024 J670024 kx (oMk σ Gp jk).1; rw [oMk_s ho670003, if_pos hlt, ← esg670022, ← esg670026]; exact hE, by show _ = _; rw [oMk_s ho670003, if_pos hlt]⟩, by rw [ht]; exact hP, va_K.moved hW.alike hK, hD⟩, hS.F ht⟩) hS.2.2 dX5_markEnd_64
      · have kc670013 : ¬ (x670012.toInt = 0) := by have h9 := c670013; rw [xk_eq, xk_0] at h9; exact h9
        refine lv_iconst (v := 1) hx hb dX5_markEnd_40 (by decide) ?_
        refine lv_goto (tgt := 45) hx hb dX5_markEnd_41 (by decide) ?_
        refine lv_aload_n hx hb dX5_markEnd_45 rfl (lv_at hl 2 rfl) ?_
        obtain ⟨j670027, hj670027⟩ := pG_3 (cy := cy) (N := N) (T := T) (I := I670008) (Q := Q670008) (J := J) (hC.kp hjk).1 (hC.kp hjk).2
        refine va_get (D := (dC, dI)) (ci := 3) (v := .int (I670008 (v (4 + jk)) 0)) (C := RX3) (T := TX3) (N := 6) hx hb hts hi3 hown hK hP j670027 hj670027 rfl 0 (by decide) (hts (.fieldLink RX5 98 "TallyLogs$Producer" "number" "I") (by decide +kernel)) (fun _ h9 => h9) rfl dX5_markEnd_46 ?_
        refine lv_topi (fun x670028 ex670028 => ?_)
        have sx670028 : x670028 = nI jk := ex670028.trans (hE.pr jk hjk).1
        refine lv_aload_n hx hb dX5_markEnd_49 rfl (lv_at hl 2 rfl) ?_
        obtain ⟨j670029, hj670029⟩ := pG_3 (cy := cy) (N := N) (T := T) (I := I670008) (Q := Q670008) (J := J) (hC.kp hjk).1 (hC.kp hjk).2
        refine va_get (D := (dC, dI)) (ci := 3) (v := .int (I670008 (v (4 + jk)) 4)) (C := RX3) (T := TX3) (N := 6) hx hb hts hi3 hown hK hP j670029 hj670029 rfl 4 (by decide) (hts (.fieldLink RX5 257 "TallyLogs$Producer" "boundGeneration" "I") (by decide +kernel)) (fun _ h9 => h9) rfl dX5_markEnd_50 ?_
        refine lv_topi (fun x670030 ex670030 => ?_)
        have sx670030 : x670030 = σ.1 11 jk := ex670030.trans ((hE.pr jk hjk).2.2.2.2.2 hm9).1
        have hFc := pfree hD hS hA
        refine va_callv (va_runI (As := [.int x670010, .int 1, .int x670028, .int x670030]) (rest := [.ref q670007, .ref (ra (5 * Gp + n670003))]) ⟨hx, hb, hml, hown, hts⟩ (g_X0_init_ l dC dI cy v L K N T I670008 Q670008 J H.size q670007 x670010 1 x670028 x670030 hC hLq670007 hkq670007) (cwI 4 hts gX5_markEnd_X0_init_ rfl rfl rfl (hts (.initialized RX0) (by decide +kernel)) (hts (.methodLink RX5 260 yX0_init_) (by decide +kernel)) (hts (.instanceMethod yX0_init_) (by decide +kernel)) rfl (by decide +kernel) ⟨Nat.le_of_ble_eq_true rfl, Nat.le_of_ble_eq_true rfl⟩) ⟨pw_blind, fun U hU hW => ⟨rfl, pw_pre hP hK hN hD hU hW⟩⟩ rfl rfl hl.1 rfl (lv_room (Nat.le_of_ble_eq_true rfl)) dX5_markEnd_53 ⟨Nat.le_of_ble_eq_true rfl, Nat.le_of_ble_eq_true rfl⟩) hS (fun q _ h => hFc q h) hFc (fun d9 t H1 locs ht hvm hw hB hz1 hk1 hS => ?_)
        obtain ⟨I670031, Q670031, J670031⟩ := d9
        obtain ⟨hC, hIo, hIf, eQ670031, eJ670031⟩ := hw
        have hIo : ∀ b, ¬ b = q670007 → I670031 b = I670008 b := hIo
        have hIf : ∀ f, f < 8 → I670031 q670007 f = r8 x670010 1 x670028 x670030 (-1) 0 0 0 f := hIf
        have eQ670031 : Q670031 = Q670008 := eQ670031
        have eJ670031 : J670031 = J := eJ670031
        obtain ⟨hP, hK1, hD1⟩ := hB
        rw [ht] at hP
        have hD := hD1.weaken (fun _ _ _ h => hFc _ h)
        generalize H1 = H at hP hS ⊢
        have hP : va_P (dC, dI) vwCl (va_pl L (pF cy K N T I670031 Q670031 J670031)) H := hP
        have hD : va_D A (va_pl L (pF cy K N T I670031 Q670031 J670031)) := hD
        have hR : RS v I670031 Q670031 J670031 I670031 Q670031 J670031 := RS.rf
        have hC : CT v L K N T I670031 Q670031 := hC
        have hIQ : ∀ b, b ∈ _ → I670031 b = I b ∧ Q670031 b = Q b := fun b hb => ⟨(hIo b (fun z => hnq (z ▸ hb))).trans (hIQ b hb).1, (congrFun eQ670031 b).trans (hIQ b hb).2⟩
        have hE : REP v pa ra L K N T I670031 Q670031 J670031 kx σ := hE0.mv hC (fun b hb => (hXe b hb).2.2.2) (fun b hb => (hIQ b hb).1) (fun b hb => (hIQ b hb).2) (fun _ _ => by rw [eJ670031])
        obtain ⟨j670032, hj670032⟩ := pG_4 (cy := cy) (N := N) (T := T) (I := I670031) (Q := Q670031) (J := J670031) (hE.rL hp hn670003 hl670003).1 (hE.rL hp hn670003 hl670003).2
        have hFc := pfree hD hS hA
        refine va_callv (va_runV (As := [.ref q670007]) (rest := []) ⟨hx, hb, hml, hown, hts⟩ (g_X4_append l dC dI cy v L K N T I670031 Q670031 J670031 H.size pa ra kx σ Gp n670003 q670007 (r8 (σ.1 5 Gp) (σ.1 12 jk) (nI jk) (σ.1 11 jk) (-1) 0 0 0) hE hp hn670003 hl670003 hNl670003 hLq670007 hkq670007 h60 (fun f hf => by rw [hIf f hf, sx670010, sx670028, sx670030, (hcx670012.elim (fun z => absurd z.1 c670013) (fun z => z.2))])) (cwV 1 hts gX5_markEnd_X4_append rfl rfl rfl (by decide +kernel) ⟨Nat.le_of_ble_eq_true rfl, Nat.le_of_ble_eq_true rfl⟩) ⟨pw_blind, va_recv hK hP (ci := 4) (q0 := j670032) rfl hj670032, fun U hU hW => ⟨rfl, pw_pre hP hK hN hD hU hW⟩⟩ rfl rfl hl.1 rfl (lv_room (Nat.le_of_ble_eq_true rfl)) dX5_markEnd_56 ⟨Nat.le_of_ble_eq_true rfl, Nat.le_of_ble_eq_true rfl⟩) hS (fun q _ h => hFc q h) hFc (fun d9 t H1 locs ht hvm hw hB hz1 hk1 hS => ?_)
        obtain ⟨I670033, Q670033, J670033⟩ := d9
        obtain ⟨hP, hK1, hD1⟩ := hB
        rw [ht] at hP
        have hD := hD1.weaken (fun _ _ _ h => hFc _ h)
        generalize H1 = H at hP hS ⊢
        have hP : va_P (dC, dI) vwCl (va_pl L (pF cy K N T I670033 Q670033 J670033)) H := hP
        have hD : va_D A (va_pl L (pF cy K N T I670033 Q670033 J670033)) := hD
        have hR : RS v I670033 Q670033 J670033 I670033 Q670033 J670033 := RS.rf
        obtain ⟨sg670035, esg670035⟩ : ∃ z, z = oAd σ (5 * Gp + n670003) (r8 (σ.1 5 Gp) (σ.1 12 jk) (nI jk) (σ.1 11 jk) (-1) 0 0 0) := ⟨_, rfl⟩
        have hE : REP v pa ra L K N T I670033 Q670033 J670033 kx sg670035 := by rw [esg670035]; exact hw
        have hC := hE.ct
        have h1sg670035 : sg670035.1 = σ.1 := by rw [esg670035]; exact rfl
        have hl670003 : lvj sg670035 Gp n670003 := by unfold lvj; rw [h1sg670035]; exact hl670003
        have ht9 : ¬ sg670035.1 2 Gp = 0 := by rw [h1sg670035]; exact ht9
        have hRH9 : RHp kx sg670035 Gp := by rw [esg670035]; exact hSK.adh hp hn670003 ht9o hLp hE9 h60 hkx
        refine lv_aload_n hx hb dX5_markEnd_59 rfl (lv_at hl 1 rfl) ?_
        obtain ⟨j670036, hj670036⟩ := pG_2 (cy := cy) (N := N) (T := T) (I := I670033) (Q := Q670033) (J := J670033) (hE.pL hp ht9).1 (hE.pL hp ht9).2
        have hFc := pfree hD hS hA
        refine va_callv (va_runV (As := []) (rest := []) ⟨hx, hb, hml, hown, hts⟩ (g_X2_raiseHw l dC dI cy v L K N T I670033 Q670033 J670033 H.size pa ra kx sg670035 Gp hE hp ht9 hRH9.1 hRH9.2.1 hRH9.2.2.1 hRH9.2.2.2) (cwV 0 hts gX5_markEnd_X2_raiseHw rfl rfl rfl (by decide +kernel) ⟨Nat.le_of_ble_eq_true rfl, Nat.le_of_ble_eq_true rfl⟩) ⟨pw_blind, va_recv hK hP (ci := 2) (q0 := j670036) rfl hj670036, fun U hU hW => ⟨rfl, pw_pre hP hK hN hD hU hW⟩⟩ rfl rfl hl.1 rfl (lv_room (Nat.le_of_ble_eq_true rfl)) dX5_markEnd_60 ⟨Nat.le_of_ble_eq_true rfl, Nat.le_of_ble_eq_true rfl⟩) hS (fun q _ h => hFc q h) hFc (fun d9 t H1 locs ht hvm hw hB hz1 hk1 hS => ?_)
        obtain ⟨I670037, Q670037, J670037⟩ := d9
        obtain ⟨hP, hK1, hD1⟩ := hB
        rw [ht] at hP
        have hD := hD1.weaken (fun _ _ _ h => hFc _ h)
        generalize H1 = H at hP hS ⊢
        have hP : va_P (dC, dI) vwCl (va_pl L (pF cy K N T I670037 Q670037 J670037)) H := hP
        have hD : va_D A (va_pl L (pF cy K N T I670037 Q670037 J670037)) := hD
        have hR : RS v I670037 Q670037 J670037 I670037 Q670037 J670037 := RS.rf
        obtain ⟨sg670039, esg670039⟩ : ∃ z, z = oRi sg670035 Gp := ⟨_, rfl⟩
        have hE : REP v pa ra L K N T I670037 Q670037 J670037 kx sg670039 := by rw [esg670039]; exact hw
        have hC := hE.ct
        have h1sg670039 : sg670039.1 = sg670035.1 := by rw [esg670039]; exact oRi_1 _ _
        have hl670003 : lvj sg670039 Gp n670003 := by unfold lvj; rw [h1sg670039]; exact hl670003
        have ht9 : ¬ sg670039.1 2 Gp = 0 := by rw [h1sg670039]; exact ht9
        refine lv_iconst (v := 1) hx hb dX5_markEnd_63 (by decide) ?_
        refine W.widen (k := 1) (n := 8) (by omega) (by omega) ?_
        exact W.zret (v := 1) hx hb hr (by decide) (fun t ht hW => ⟨⟨1, (L, K, T, I670037, Q670037, J670037), rfl, ⟨by show REP v pa ra L K N T I670037 Q670037 J670037 kx (oMk σ Gp jk).1; rw [oMk_s ho670003, if_pos hlt, ← esg670035, ← esg670039]; exact hE, by show _ = _; rw [oMk_s ho670003, if_pos hlt]⟩, by rw [ht]; exact hP, va_K.moved hW.alike hK, hD⟩, hS.F ht⟩) hS.2.2 dX5_markEnd_64
    · have kc670006 : ¬ (r670004.toInt = 0) := by have h9 := c670006; rw [xk_eq, xk_0] at h9; exact h9
      refine lv_iconst (v := 0) hx hb dX5_markEnd_22 (by decide) ?_
      refine W.widen (k := 1) (n := 8) (by omega) (by omega) ?_
      exact W.zret (v := 0) hx hb hr (by decide) (fun t ht hW => ⟨⟨0, (L, K, T, I, Q, J), rfl, ⟨by show REP v pa ra L K N T I Q J kx (oMk σ Gp jk).1; rw [oMk_s ho670003, if_neg (fun z => by rw [if_pos z] at hr670004; exact c670006 hr670004)]; exact hE, by show _ = _; rw [oMk_s ho670003, if_neg (fun z => by rw [if_pos z] at hr670004; exact c670006 hr670004)]⟩, by rw [ht]; exact hP, va_K.moved hW.alike hK, hD⟩, hS.F ht⟩) hS.2.2 dX5_markEnd_23
