section XK
variable {u : Int32} {σ σ' : SG} {p j k : Nat} {E : Int}
/-- produce, once nothing stands against it: by nobody, by a producer that is open, that is not -/
theorem oPr_n {g sq ke va : Int32} : oPr σ p j (-1) g sq ke va = oRi (oAd σ j (r8 (σ.1 5 p) 0 (-1) g (-1) ke va 0)) p := by
  unfold oPr
  rw [if_neg (fun z => z.1 (by decide)), if_pos (by decide)]
theorem oPr_o {i : Nat} (hi : i < 6) {g sq ke va : Int32} (h : σ.1 9 i = 1) : oPr σ p j (nI i) g sq ke va = oRi (sA (oAd σ j (r8 (σ.1 5 p) 0 (nI i) g sq ke va 1)) 10 i (σ.1 10 i ||| (1 <<< (nI p &&& 31)))) p := by
  unfold oPr
  rw [nI_clamp (by omega), if_pos ⟨nI_pos (by omega), h⟩]
theorem oPr_c {i : Nat} (hi : i < 6) {g sq ke va : Int32} (h : ¬ σ.1 9 i = 1) : oPr σ p j (nI i) g sq ke va = oRi (oAd σ j (r8 (σ.1 5 p) 0 (nI i) g sq ke va 0)) p := by
  unfold oPr
  rw [nI_clamp (by omega), if_neg (fun z => h z.2), if_neg (nI_pos (by omega))]
/-- left is no matter of raiseHw's -/
theorem RHp.s10 {kx : Nat → Prop} {i : Nat} {x : Int32} (h : RHp kx σ p) : RHp kx (sA σ 10 i x) p := by
  unfold RHp PLd lvj at h ⊢
  rw [sA_n (i := 4) (by decide), sA_n (i := 7) (by decide), sA_n (i := 2) (by decide), sA_n (i := 3) (by decide), sA_n (i := 0) (by decide)]
  exact h
end XK
set_option maxHeartbeats 4000000 in
set_option maxRecDepth 100000 in
/-- produce, exactly -/
theorem g_X5_produce (l : Launch) (dC : Nat → ClassId) (dI : Nat → Nat → Nat) (cy : Nat → ClassId) (v : Nat → Nat) (L : List Nat) (K N : Nat → Nat) (T : Nat → Nat → Nat) (I : Nat → Nat → Int32) (Q : Nat → Nat → Option Nat) (J : Nat → Nat → Int32) (sz : Nat) (pa ra : Nat → Nat) (kx : Nat → Prop) (σ : SG) (E : Int) (xp hd sq ke va al : Int32) (hE : REP v pa ra L K N T I Q J kx σ) (hkx : kx = kxo σ) (hSK : SK σ) (hLA : LA E σ) (hE9 : E < 1900) (hB : B5 (σ.1 0 0)) : Met l yX5_produce wsX5_produce ({ frames := 3, cells := 1, slots := 8, locals := 68 }) (va_Pc [.ref (v 0), .int xp, .int hd, .int sq, .int ke, .int va, .int al] (pW dC dI cy L (pF cy K N T I Q J) sz)) (va_Qi (fun (r : Int32) (d : List Nat × (Nat → Nat) × (Nat → Nat → Nat) × (Nat → Nat → Int32) × (Nat → Nat → Option Nat) × (Nat → Nat → Int32)) => (REP v pa ra d.1 d.2.1 N d.2.2.1 d.2.2.2.1 d.2.2.2.2.1 d.2.2.2.2.2 (kxo (qPr σ xp hd sq ke va al).1) ((qPr σ xp hd sq ke va al).1)) ∧ r = (qPr σ xp hd sq ke va al).2) (fun (d : List Nat × (Nat → Nat) × (Nat → Nat → Nat) × (Nat → Nat → Int32) × (Nat → Nat → Option Nat) × (Nat → Nat → Int32)) t => va_P (dC, dI) vwCl (va_pl d.1 (pF cy d.2.1 N d.2.2.1 d.2.2.2.1 d.2.2.2.2.1 d.2.2.2.2.2)) t.heap ∧ va_K (dC, dI) vwCl (pTy cy) t ∧ va_D (va_A (va_pl L (pF cy K N T I Q J)) sz) (va_pl d.1 (pF cy d.2.1 N d.2.2.1 d.2.2.2.1 d.2.2.2.2.1 d.2.2.2.2.2))) (va_A (va_pl L (pF cy K N T I Q J)) sz)) 1 8 (va_A (va_pl L (pF cy K N T I Q J)) sz) := by
  refine Met.ofW (cc := cX5_produce) (maxL := 11) (ret := (some .int)) (by decide) rfl ?_
  intro p e s m args below meth c s₁ B hml hv
  obtain ⟨rfl, hsz, ⟨hP, hK, hN⟩, hD0⟩ := hv
  have hx := B.exec
  have hb := B.bytes
  have hr := B.returns
  have hts := atoms_spec (ws := wsX5_produce) B.pre
  have hown : s.vm.findClass RX5 = some m.cls := findClass_of_methodNamed B.named
  have hlocks := B.notSynchronized
  have hi5 : ∀ w ∈ wsX50, w ∈ wsX5_produce := by decide +kernel
  have hi4 : ∀ w ∈ wsX40, w ∈ wsX5_produce := by decide +kernel
  have hi3 : ∀ w ∈ wsX30, w ∈ wsX5_produce := by decide +kernel
  have hi2 : ∀ w ∈ wsX20, w ∈ wsX5_produce := by decide +kernel
  have hl := lv_entry ([.ref (v 0), .int xp, .int hd, .int sq, .int ke, .int va, .int al]) (n := 11) (Nat.le_of_ble_eq_true rfl)
  rw [lg_entry_eq]
  generalize (lg_sl ([.ref (v 0), .int xp, .int hd, .int sq, .int ke, .int va, .int al]) ++ List.replicate (11 - (lg_sl ([.ref (v 0), .int xp, .int hd, .int sq, .int ke, .int va, .int al])).length) Slot.unset).toArray = ls at hl ⊢
  have hl : lv_has ls 11 [(0, .ref (v 0)), (1, .int xp), (2, .int hd), (3, .int sq), (4, .int ke), (5, .int va), (6, .int al)] := hl
  subst hsz
  have hD := hD0.self (sz := s.heap.size)
  generalize hAe : va_A (va_pl L (pF cy K N T I Q J)) s.heap.size = A at hD ⊢
  have hA : ∀ q : Nat, s.heap.size ≤ q → A q := fun q h => by rw [← hAe]; exact Or.inr h
  have hS : va_S A s.heap s.heap [] := va_S.rf
  have hR : RS v I Q J I Q J := RS.rf
  have hn28 := hN.1
  have hn30 := hN.2.1
  have hn37 := hN.2.2.1
  have hC := hE.ct
  subst hkx
  refine lv_aload_n hx hb dX5_produce_0 rfl (lv_at hl 0 rfl) ?_
  refine lv_iload_n hx hb dX5_produce_1 rfl (lv_at hl 1 rfl) ?_
  obtain ⟨j690002, hj690002⟩ := pG_5 (cy := cy) (N := N) (T := T) (I := I) (Q := Q) (J := J) (hC.at 0 (by decide)) (hC.k 0 (by decide) rfl)
  refine va_csq (W.runV (As := [.int xp]) (rest := []) ⟨hx, hb, hml, hown, hts⟩ (g_X5_partitionAt l dC dI cy v L K N T I Q J pa ra (kxo σ) σ xp hE) (cwV 1 hts gX5_produce_X5_partitionAt rfl rfl rfl (by decide +kernel) ⟨Nat.le_of_ble_eq_true rfl, Nat.le_of_ble_eq_true rfl⟩) ⟨pb_blind, va_recv hK hP (ci := 5) (q0 := j690002) rfl hj690002, fun U hU hW => ⟨rfl, pb_pre hP hK hN hU hW⟩⟩ rfl rfl hl.1 rfl (lv_room (Nat.le_of_ble_eq_true rfl)) dX5_produce_2 ⟨Nat.le_of_ble_eq_true rfl, Nat.le_of_ble_eq_true rfl⟩) (fun r690001 hr690001 => ?_)
  rcases hr690001 with ⟨rfl, hpn690003⟩ | ⟨P690003, hP690003, eP690003, htP690003, rfl⟩
  · refine W.eq (g2 := F0 m 5 ls [.null]) rfl ?_
    refine lv_astoreN (lv' := [(7, .null), (0, .ref (v 0)), (1, .int xp), (2, .int hd), (3, .int sq), (4, .int ke), (5, .int va), (6, .int al)]) hx hb dX5_produce_5 hl (by decide) rfl (fun ls hl => ?_)
    refine lv_aload_n hx hb dX5_produce_7 rfl (lv_at hl 1 rfl) ?_
    refine lv_iload_n hx hb dX5_produce_8 rfl (lv_at hl 3 rfl) ?_
    obtain ⟨j690005, hj690005⟩ := pG_5 (cy := cy) (N := N) (T := T) (I := I) (Q := Q) (J := J) (hC.at 0 (by decide)) (hC.k 0 (by decide) rfl)
    refine va_csq (W.runV (As := [.int hd]) (rest := []) ⟨hx, hb, hml, hown, hts⟩ (g_X5_producerOf l dC dI cy v L K N T I Q J hd hC) (cwV 1 hts gX5_produce_X5_producerOf rfl rfl rfl (by decide +kernel) ⟨Nat.le_of_ble_eq_true rfl, Nat.le_of_ble_eq_true rfl⟩) ⟨pb_blind, va_recv hK hP (ci := 5) (q0 := j690005) rfl hj690005, fun U hU hW => ⟨rfl, pb_pre hP hK hN hU hW⟩⟩ rfl rfl hl.1 rfl (lv_room (Nat.le_of_ble_eq_true rfl)) dX5_produce_9 ⟨Nat.le_of_ble_eq_true rfl, Nat.le_of_ble_eq_true rfl⟩) (fun r690004 hr690004 => ?_)
    rcases hr690004 with ⟨rfl, hih690006⟩ | ⟨j690006, hj690006, ej690006, hih690006, rfl⟩
    · refine W.eq (g2 := F0 m 12 ls [.null]) rfl ?_
      refine lv_astoreN (lv' := [(8, .null), (7, .null), (0, .ref (v 0)), (1, .int xp), (2, .int hd), (3, .int sq), (4, .int ke), (5, .int va), (6, .int al)]) hx hb dX5_produce_12 hl (by decide) rfl (fun ls hl => ?_)
      refine lv_aloadN hx hb dX5_produce_14 (lv_at hl 1 rfl) ?_
      refine lv_ifnullN (tgt := 29) hx hb dX5_produce_16 (by decide) ?_
      refine lv_iconst (v := (-1)) hx hb dX5_produce_29 (by decide) ?_
      refine W.widen (k := 1) (n := 8) (by omega) (by omega) ?_
      have e9 : qPr σ xp hd sq ke va al = (σ, (-1)) := by unfold qPr; rw [if_pos hpn690003]
      have hk9 : kxo σ = (kxo σ) := rfl
      exact W.iret (v := (-1)) hx hb hr (fun t ht hW => ⟨⟨(-1), (L, K, T, I, Q, J), rfl, ⟨by show REP v pa ra L K N T I Q J (kxo (qPr σ xp hd sq ke va al).1) (qPr σ xp hd sq ke va al).1; rw [e9]; show REP v pa ra L K N T I Q J (kxo σ) σ; rw [hk9]; exact hE, by show _ = _; rw [e9]⟩, by rw [ht]; exact hP, va_K.moved hW.alike hK, hD⟩, hS.F ht⟩) hS.2.2 dX5_produce_30
    · refine W.eq (g2 := F0 m 12 ls [.ref (v (4 + j690006))]) rfl ?_
      have cj690006 := nI_cl (by omega) ej690006
      refine lv_astore (lv' := [(8, .ref (v (4 + j690006))), (7, .null), (0, .ref (v 0)), (1, .int xp), (2, .int hd), (3, .int sq), (4, .int ke), (5, .int va), (6, .int al)]) hx hb dX5_produce_12 hl (by decide) rfl (fun ls hl => ?_)
      refine lv_aloadN hx hb dX5_produce_14 (lv_at hl 1 rfl) ?_
      refine lv_ifnullN (tgt := 29) hx hb dX5_produce_16 (by decide) ?_
      refine lv_iconst (v := (-1)) hx hb dX5_produce_29 (by decide) ?_
      refine W.widen (k := 1) (n := 8) (by omega) (by omega) ?_
      have e9 : qPr σ xp hd sq ke va al = (σ, (-1)) := by unfold qPr; rw [if_pos hpn690003]
      have hk9 : kxo σ = (kxo σ) := rfl
      exact W.iret (v := (-1)) hx hb hr (fun t ht hW => ⟨⟨(-1), (L, K, T, I, Q, J), rfl, ⟨by show REP v pa ra L K N T I Q J (kxo (qPr σ xp hd sq ke va al).1) (qPr σ xp hd sq ke va al).1; rw [e9]; show REP v pa ra L K N T I Q J (kxo σ) σ; rw [hk9]; exact hE, by show _ = _; rw [e9]⟩, by rw [ht]; exact hP, va_K.moved hW.alike hK, hD⟩, hS.F ht⟩) hS.2.2 dX5_produce_30
  · refine W.eq (g2 := F0 m 5 ls [.ref (pa P690003)]) rfl ?_
    have hit690003 := sp_it_y (f := σ.1 2) hP690003 eP690003 htP690003
    have cP690003 := nI_cl (by omega) eP690003
    have hPI690003 := hSK.1 P690003 hP690003
    have hPL690003 := hPI690003.pl htP690003
    have htO690003 := htP690003
    refine lv_astore (lv' := [(7, .ref (pa P690003)), (0, .ref (v 0)), (1, .int xp), (2, .int hd), (3, .int sq), (4, .int ke), (5, .int va), (6, .int al)]) hx hb dX5_produce_5 hl (by decide) rfl (fun ls hl => ?_)
    refine lv_aload_n hx hb dX5_produce_7 rfl (lv_at hl 1 rfl) ?_
    refine lv_iload_n hx hb dX5_produce_8 rfl (lv_at hl 3 rfl) ?_
    obtain ⟨j690008, hj690008⟩ := pG_5 (cy := cy) (N := N) (T := T) (I := I) (Q := Q) (J := J) (hC.at 0 (by decide)) (hC.k 0 (by decide) rfl)
    refine va_csq (W.runV (As := [.int hd]) (rest := []) ⟨hx, hb, hml, hown, hts⟩ (g_X5_producerOf l dC dI cy v L K N T I Q J hd hC) (cwV 1 hts gX5_produce_X5_producerOf rfl rfl rfl (by decide +kernel) ⟨Nat.le_of_ble_eq_true rfl, Nat.le_of_ble_eq_true rfl⟩) ⟨pb_blind, va_recv hK hP (ci := 5) (q0 := j690008) rfl hj690008, fun U hU hW => ⟨rfl, pb_pre hP hK hN hU hW⟩⟩ rfl rfl hl.1 rfl (lv_room (Nat.le_of_ble_eq_true rfl)) dX5_produce_9 ⟨Nat.le_of_ble_eq_true rfl, Nat.le_of_ble_eq_true rfl⟩) (fun r690007 hr690007 => ?_)
    rcases hr690007 with ⟨rfl, hih690009⟩ | ⟨j690009, hj690009, ej690009, hih690009, rfl⟩
    · refine W.eq (g2 := F0 m 12 ls [.null]) rfl ?_
      refine lv_astoreN (lv' := [(8, .null), (7, .ref (pa P690003)), (0, .ref (v 0)), (1, .int xp), (2, .int hd), (3, .int sq), (4, .int ke), (5, .int va), (6, .int al)]) hx hb dX5_produce_12 hl (by decide) rfl (fun ls hl => ?_)
      refine lv_aload hx hb dX5_produce_14 (lv_at hl 1 rfl) ?_
      refine lv_ifnull hx hb dX5_produce_16 ?_
      refine lv_aloadN hx hb dX5_produce_19 (lv_at hl 0 rfl) ?_
      refine lv_ifnonnullN hx hb dX5_produce_21 ?_
      refine lv_iload_n hx hb dX5_produce_24 rfl (lv_at hl 4 rfl) ?_
      refine lv_iconst (v := (-1)) hx hb dX5_produce_25 (by decide) ?_
      refine lv_icmp_eq (tgt := 31) hx hb dX5_produce_26 (by decide) (fun c690010 => ?_) (fun c690010 => ?_)
      · have kc690010 : hd.toInt = (-1) := by have h9 := c690010; rw [xk_eq, (show ((-1) : Int32).toInt = -1 by decide)] at h9; exact h9
        have hhd : hd = -1 := c690010
        have hh9 : ¬ (¬ hd = -1 ∧ sp_ih hd = 0) := fun z => z.1 hhd
        refine lv_aload hx hb dX5_produce_31 (lv_at hl 1 rfl) ?_
        obtain ⟨j690012, hj690012⟩ := pG_2 (cy := cy) (N := N) (T := T) (I := I) (Q := Q) (J := J) (hE.pL hP690003 htP690003).1 (hE.pL hP690003 htP690003).2
        refine va_csq (W.runV (As := []) (rest := []) ⟨hx, hb, hml, hown, hts⟩ (g_X2_leading l dC dI cy v L K N T I Q J pa ra (kxo σ) σ P690003 hE hP690003 htP690003) (cwV 0 hts gX5_produce_X2_leading rfl rfl rfl (by decide +kernel) ⟨Nat.le_of_ble_eq_true rfl, Nat.le_of_ble_eq_true rfl⟩) ⟨pb_blind, va_recv hK hP (ci := 2) (q0 := j690012) rfl hj690012, fun U hU hW => ⟨rfl, pb_pre hP hK hN hU hW⟩⟩ rfl rfl hl.1 rfl (lv_room (Nat.le_of_ble_eq_true rfl)) dX5_produce_33 ⟨Nat.le_of_ble_eq_true rfl, Nat.le_of_ble_eq_true rfl⟩) (fun r690011 hr690011 => ?_)
        rcases hr690011 with ⟨rfl, hno690013⟩ | ⟨n690013, hn690013, en690013, hl690013, rfl⟩
        · refine W.eq (g2 := F0 m 36 ls [.null]) rfl ?_
          have ho690013 := hPL690003.no hno690013
          refine lv_astoreN (lv' := [(9, .null), (8, .null), (7, .ref (pa P690003)), (0, .ref (v 0)), (1, .int xp), (2, .int hd), (3, .int sq), (4, .int ke), (5, .int va), (6, .int al)]) hx hb dX5_produce_36 hl (by decide) rfl (fun ls hl => ?_)
          refine lv_aloadN hx hb dX5_produce_38 (lv_at hl 0 rfl) ?_
          refine lv_ifnonnullN hx hb dX5_produce_40 ?_
          refine lv_bipush (v := (-2)) hx hb dX5_produce_43 (by decide) ?_
          refine W.widen (k := 1) (n := 8) (by omega) (by omega) ?_
          have e9 : qPr σ xp hd sq ke va al = (σ, (-2)) := by unfold qPr; rw [if_neg hit690003, if_neg hh9, cP690003, ho690013]
          have hk9 : kxo σ = (kxo σ) := rfl
          exact W.iret (v := (-2)) hx hb hr (fun t ht hW => ⟨⟨(-2), (L, K, T, I, Q, J), rfl, ⟨by show REP v pa ra L K N T I Q J (kxo (qPr σ xp hd sq ke va al).1) (qPr σ xp hd sq ke va al).1; rw [e9]; show REP v pa ra L K N T I Q J (kxo σ) σ; rw [hk9]; exact hE, by show _ = _; rw [e9]⟩, by rw [ht]; exact hP, va_K.moved hW.alike hK, hD⟩, hS.F ht⟩) hS.2.2 dX5_produce_45
        · refine W.eq (g2 := F0 m 36 ls [.ref (ra (5 * P690003 + n690013))]) rfl ?_
          have hst690013 := hPL690003.at hn690013 en690013
          have ho690013 := oOw_c hn690013 en690013 hst690013.2
          have hLI690013 := hLA (5 * P690003 + n690013) (by omega)
          have hNl690013 := hLI690013.ln (by omega)
          obtain ⟨q1690013, q2690013, q3690013, q4690013, q5690013, q6690013⟩ := id hLI690013
          have hRF690013 := hSK.2.1 (5 * P690003 + n690013) (by omega)
          have hlO690013 := hl690013
          refine lv_astore (lv' := [(9, .ref (ra (5 * P690003 + n690013))), (8, .null), (7, .ref (pa P690003)), (0, .ref (v 0)), (1, .int xp), (2, .int hd), (3, .int sq), (4, .int ke), (5, .int va), (6, .int al)]) hx hb dX5_produce_36 hl (by decide) rfl (fun ls hl => ?_)
          refine lv_aload hx hb dX5_produce_38 (lv_at hl 0 rfl) ?_
          refine lv_ifnonnull (tgt := 46) hx hb dX5_produce_40 (by decide) ?_
          refine lv_aloadN hx hb dX5_produce_46 (lv_at hl 1 rfl) ?_
          refine lv_ifnullN (tgt := 75) hx hb dX5_produce_48 (by decide) ?_
          refine lv_iload hx hb dX5_produce_75 (lv_at hl 9 rfl) ?_
          refine lv_if_eq (tgt := 99) hx hb dX5_produce_77 (by decide) (fun c690014 => ?_) (fun c690014 => ?_)
          · have kc690014 : al.toInt = 0 := by have h9 := c690014; rw [xk_eq, xk_0] at h9; exact h9
            refine lv_aloadN hx hb dX5_produce_99 (lv_at hl 1 rfl) ?_
            refine lv_ifnullN (tgt := 153) hx hb dX5_produce_101 (by decide) ?_
            refine lv_aload hx hb dX5_produce_153 (lv_at hl 0 rfl) ?_
            obtain ⟨j690016, hj690016⟩ := pG_4 (cy := cy) (N := N) (T := T) (I := I) (Q := Q) (J := J) (hE.rL hP690003 hn690013 hl690013).1 (hE.rL hP690003 hn690013 hl690013).2
            refine vp_callSi (W.runV (As := []) (rest := []) ⟨hx, hb, hml, hown, hts⟩ (g_X4_isFull l dC dI cy v L K N T I Q J pa ra (kxo σ) σ P690003 n690013 hE hP690003 hn690013 hl690013 hNl690013) (cwV 0 hts gX5_produce_X4_isFull rfl rfl rfl (by decide +kernel) ⟨Nat.le_of_ble_eq_true rfl, Nat.le_of_ble_eq_true rfl⟩) ⟨pb_blind, va_recv hK hP (ci := 4) (q0 := j690016) rfl hj690016, fun U hU hW => ⟨rfl, pb_pre hP hK hN hU hW⟩⟩ rfl rfl hl.1 rfl (lv_room (Nat.le_of_ble_eq_true rfl)) dX5_produce_155 ⟨Nat.le_of_ble_eq_true rfl, Nat.le_of_ble_eq_true rfl⟩) (fun r690015 hr690015 => ?_)
            refine lv_if_eq (tgt := 164) hx hb dX5_produce_158 (by decide) (fun c690017 => ?_) (fun c690017 => ?_)
            · have kc690017 : r690015.toInt = 0 := by have h9 := c690017; rw [xk_eq, xk_0] at h9; exact h9
              have hlt : σ.2.1 (5 * P690003 + n690013) 2 - σ.2.1 (5 * P690003 + n690013) 1 < 60 := by by_cases z : σ.2.1 (5 * P690003 + n690013) 2 - σ.2.1 (5 * P690003 + n690013) 1 < 60; (exact z); rw [if_neg z] at hr690015; exact absurd (hr690015.symm.trans c690017) (by decide)
              have h60 : (σ.2.1 (5 * P690003 + n690013) 2).toInt < (σ.2.1 (5 * P690003 + n690013) 1).toInt + 60 := by have z := hlt; rw [xk_lt, xsub (by omega) (by omega), show (60 : Int32).toInt = 60 by decide] at z; omega
              have hn60 : ¬ σ.2.1 (5 * P690003 + n690013) 2 - σ.2.1 (5 * P690003 + n690013) 1 = 60 := fun z => by rw [z] at hlt; exact absurd hlt (by decide)
              refine lv_aload hx hb dX5_produce_164 (lv_at hl 0 rfl) ?_
              refine lv_aload hx hb dX5_produce_166 (lv_at hl 2 rfl) ?_
              obtain ⟨j690018, hj690018⟩ := pG_2 (cy := cy) (N := N) (T := T) (I := I) (Q := Q) (J := J) (hE.pL hP690003 htP690003).1 (hE.pL hP690003 htP690003).2
              refine va_get (D := (dC, dI)) (ci := 2) (v := .int (I (pa P690003) 4)) (C := RX2) (T := TX2) (N := 6) hx hb hts hi2 hown hK hP j690018 hj690018 rfl 4 (by decide) (hts (.fieldLink RX5 115 "TallyLogs$Partition" "epoch" "I") (by decide +kernel)) (fun _ h9 => h9) rfl dX5_produce_168 ?_
              refine lv_topi (fun x690019 ex690019 => ?_)
              have sx690019 : x690019 = σ.1 5 P690003 := ex690019.trans ((hE.pt P690003 hP690003).2 htP690003).2.1.2.2.2.1
              refine lv_aloadN hx hb dX5_produce_171 (lv_at hl 1 rfl) ?_
              refine lv_iload_n hx hb dX5_produce_173 rfl (lv_at hl 6 rfl) ?_
              refine lv_iload hx hb dX5_produce_174 (lv_at hl 7 rfl) ?_
              refine lv_iload hx hb dX5_produce_176 (lv_at hl 8 rfl) ?_
              have hFc := pfree hD hS hA
              refine va_callr (va_runS (As := [.int x690019, .null, .int sq, .int ke, .int va]) (rest := [.ref (ra (5 * P690003 + n690013))]) ⟨hx, hb, hml, hown, hts⟩ (g_X5_newData0 l dC dI cy v L K N T I Q J s.heap.size pa ra (kxo σ) σ x690019 sq ke va hE) (va_cwS 5 hts gX5_produce_X5_newData rfl rfl rfl (by decide +kernel) ⟨Nat.le_of_ble_eq_true rfl, Nat.le_of_ble_eq_true rfl⟩) ⟨pw_blind, fun U hU hW => ⟨rfl, pw_pre hP hK hN hD hU hW⟩⟩ rfl rfl hl.1 rfl (lv_room (Nat.le_of_ble_eq_true rfl)) dX5_produce_178 ⟨Nat.le_of_ble_eq_true rfl, Nat.le_of_ble_eq_true rfl⟩) hS (fun q _ h => hFc q h) hFc (fun d9 rn690021 t H1 locs ht hvm hw hB hz1 hk1 hS => ?_)
              have hE0 := hE
              obtain ⟨L, K, T, I690020, Q690020, J690020⟩ := d9
              obtain ⟨hC, hXe, hIQ, eJ690020⟩ := hw
              obtain ⟨⟨⟨hLrn690021, hkrn690021⟩, hfrn690021⟩, hB⟩ := hB
              have eJ690020 : J690020 = J := eJ690020
              have hfrn690021 : ∀ f, f < 8 → I690020 rn690021 f = r8 x690019 0 (-1) (-1) (-1) ke va 0 f := hfrn690021
              obtain ⟨hP, hK1, hD1⟩ := hB
              rw [ht] at hP
              have hD := hD1.weaken (fun _ _ _ h => hFc _ h)
              generalize H1 = H at hP hS ⊢
              have hP : va_P (dC, dI) vwCl (va_pl L (pF cy K N T I690020 Q690020 J690020)) H := hP
              have hD : va_D A (va_pl L (pF cy K N T I690020 Q690020 J690020)) := hD
              have hR : RS v I690020 Q690020 J690020 I690020 Q690020 J690020 := RS.rf
              have hC : CT v L K N T I690020 Q690020 := hC
              have hE : REP v pa ra L K N T I690020 Q690020 J690020 (kxo σ) σ := hE0.mv hC (fun b hb => (hXe b hb).2.2.2) (fun b hb => (hIQ b hb).1) (fun b hb => (hIQ b hb).2) (fun _ _ => by rw [eJ690020])
              refine W.widen (k := 1) (n := 8) (by omega) (by omega) ?_
              obtain ⟨j690022, hj690022⟩ := pG_4 (cy := cy) (N := N) (T := T) (I := I690020) (Q := Q690020) (J := J690020) (hE.rL hP690003 hn690013 hl690013).1 (hE.rL hP690003 hn690013 hl690013).2
              have hFc := pfree hD hS hA
              refine va_callv (va_runV (As := [.ref rn690021]) (rest := []) ⟨hx, hb, hml, hown, hts⟩ (g_X4_append l dC dI cy v L K N T I690020 Q690020 J690020 H.size pa ra (kxo σ) σ P690003 n690013 rn690021 (r8 (σ.1 5 P690003) 0 (-1) (-1) (-1) ke va 0) hE hP690003 hn690013 hl690013 hNl690013 hLrn690021 hkrn690021 h60 (fun f hf9 => by rw [hfrn690021 f hf9, sx690019])) (cwV 1 hts gX5_produce_X4_append rfl rfl rfl (by decide +kernel) ⟨Nat.le_of_ble_eq_true rfl, Nat.le_of_ble_eq_true rfl⟩) ⟨pw_blind, va_recv hK hP (ci := 4) (q0 := j690022) rfl hj690022, fun U hU hW => ⟨rfl, pw_pre hP hK hN hD hU hW⟩⟩ rfl rfl hl.1 rfl (lv_room (Nat.le_of_ble_eq_true rfl)) dX5_produce_181 ⟨Nat.le_of_ble_eq_true rfl, Nat.le_of_ble_eq_true rfl⟩) hS (fun q _ h => hFc q h) hFc (fun d9 t H1 locs ht hvm hw hB hz1 hk1 hS => ?_)
              obtain ⟨I690023, Q690023, J690023⟩ := d9
              obtain ⟨hP, hK1, hD1⟩ := hB
              rw [ht] at hP
              have hD := hD1.weaken (fun _ _ _ h => hFc _ h)
              generalize H1 = H at hP hS ⊢
              have hP : va_P (dC, dI) vwCl (va_pl L (pF cy K N T I690023 Q690023 J690023)) H := hP
              have hD : va_D A (va_pl L (pF cy K N T I690023 Q690023 J690023)) := hD
              have hR : RS v I690023 Q690023 J690023 I690023 Q690023 J690023 := RS.rf
              obtain ⟨sg690025, esg690025⟩ : ∃ z, z = oAd σ (5 * P690003 + n690013) (r8 (σ.1 5 P690003) 0 (-1) (-1) (-1) ke va 0) := ⟨_, rfl⟩
              have hE : REP v pa ra L K N T I690023 Q690023 J690023 (kxo σ) sg690025 := by rw [esg690025]; exact hw
              have hC := hE.ct
              have h1sg690025 : sg690025.1 = σ.1 := by rw [esg690025]; exact rfl
              have hl690013 : lvj sg690025 P690003 n690013 := by unfold lvj; rw [h1sg690025]; exact hl690013
              have htP690003 : ¬ sg690025.1 2 P690003 = 0 := by rw [h1sg690025]; exact htP690003
              refine lv_aloadN hx hb dX5_produce_184 (lv_at hl 1 rfl) ?_
              refine lv_ifnullN (tgt := 211) hx hb dX5_produce_186 (by decide) ?_
              have hRH8 : RHp (kxo σ) sg690025 P690003 := by rw [esg690025]; exact hSK.adh hP690003 hn690013 htO690003 (fun m hm => hLA (5 * P690003 + m) (by omega)) hE9 h60 rfl
              have hRH9 := hRH8
              refine lv_aload hx hb dX5_produce_211 (lv_at hl 2 rfl) ?_
              obtain ⟨j690026, hj690026⟩ := pG_2 (cy := cy) (N := N) (T := T) (I := I690023) (Q := Q690023) (J := J690023) (hE.pL hP690003 htP690003).1 (hE.pL hP690003 htP690003).2
              have hFc := pfree hD hS hA
              refine va_callv (va_runV (As := []) (rest := []) ⟨hx, hb, hml, hown, hts⟩ (g_X2_raiseHw l dC dI cy v L K N T I690023 Q690023 J690023 H.size pa ra (kxo σ) sg690025 P690003 hE hP690003 htP690003 hRH9.1 hRH9.2.1 hRH9.2.2.1 hRH9.2.2.2) (cwV 0 hts gX5_produce_X2_raiseHw rfl rfl rfl (by decide +kernel) ⟨Nat.le_of_ble_eq_true rfl, Nat.le_of_ble_eq_true rfl⟩) ⟨pw_blind, va_recv hK hP (ci := 2) (q0 := j690026) rfl hj690026, fun U hU hW => ⟨rfl, pw_pre hP hK hN hD hU hW⟩⟩ rfl rfl hl.1 rfl (lv_room (Nat.le_of_ble_eq_true rfl)) dX5_produce_213 ⟨Nat.le_of_ble_eq_true rfl, Nat.le_of_ble_eq_true rfl⟩) hS (fun q _ h => hFc q h) hFc (fun d9 t H1 locs ht hvm hw hB hz1 hk1 hS => ?_)
              obtain ⟨I690027, Q690027, J690027⟩ := d9
              obtain ⟨hP, hK1, hD1⟩ := hB
              rw [ht] at hP
              have hD := hD1.weaken (fun _ _ _ h => hFc _ h)
              generalize H1 = H at hP hS ⊢
              have hP : va_P (dC, dI) vwCl (va_pl L (pF cy K N T I690027 Q690027 J690027)) H := hP
              have hD : va_D A (va_pl L (pF cy K N T I690027 Q690027 J690027)) := hD
              have hR : RS v I690027 Q690027 J690027 I690027 Q690027 J690027 := RS.rf
              obtain ⟨sg690029, esg690029⟩ : ∃ z, z = oRi sg690025 P690003 := ⟨_, rfl⟩
              have hE : REP v pa ra L K N T I690027 Q690027 J690027 (kxo σ) sg690029 := by rw [esg690029]; exact hw
              have hC := hE.ct
              have h1sg690029 : sg690029.1 = sg690025.1 := by rw [esg690029]; exact oRi_1 _ _
              have hl690013 : lvj sg690029 P690003 n690013 := by unfold lvj; rw [h1sg690029]; exact hl690013
              have htP690003 : ¬ sg690029.1 2 P690003 = 0 := by rw [h1sg690029]; exact htP690003
              refine lv_aload hx hb dX5_produce_216 (lv_at hl 0 rfl) ?_
              obtain ⟨j690030, hj690030⟩ := pG_4 (cy := cy) (N := N) (T := T) (I := I690027) (Q := Q690027) (J := J690027) (hE.rL hP690003 hn690013 hl690013).1 (hE.rL hP690003 hn690013 hl690013).2
              refine va_get (D := (dC, dI)) (ci := 4) (v := .int (I690027 (ra (5 * P690003 + n690013)) 2)) (C := RX4) (T := TX4) (N := 7) hx hb hts hi4 hown hK hP j690030 hj690030 rfl 2 (by decide) (hts (.fieldLink RX5 132 "TallyLogs$Replica" "end" "I") (by decide +kernel)) (fun _ h9 => h9) rfl dX5_produce_218 ?_
              refine lv_topi (fun x690031 ex690031 => ?_)
              have sx690031 : x690031 = sg690029.2.1 (5 * P690003 + n690013) 2 := ex690031.trans (hE.g hP690003 hn690013 hl690013 (by decide) (by decide) (by decide))
              have ux690031 := sx690031
              have tx690031 : x690031.toInt = (sg690029.2.1 (5 * P690003 + n690013) 2).toInt := congrArg Int32.toInt sx690031
              refine lv_iconst (v := 1) hx hb dX5_produce_221 (by decide) ?_
              refine lv_isub hx hb dX5_produce_222 ?_
              refine lv_topi (fun v690032 ev690032 => ?_)
              refine W.widen (k := 1) (n := 8) (by omega) (by omega) ?_
              have e9 : qPr σ xp hd sq ke va al = (sg690029, v690032) := by unfold qPr; rw [if_neg hit690003, if_neg hh9, cP690003, ho690013]; refine (if_pos hhd).trans ?_; refine (if_neg (fun z => z.1 c690014)).trans ?_; refine (if_neg hn60).trans ?_; have hvv : σ.2.1 (5 * P690003 + n690013) 2 = v690032 := (by rw [ev690032, ux690031, esg690029, oRi_g (by decide), esg690025, oAd_e, Int32.add_sub_cancel]); rw [oPr_n, esg690029, esg690025, ← hvv]
              have hk9 : kxo sg690029 = (kxo σ) := kxo_c (by rw [esg690029, oRi_1, esg690025, oAd_1]) (fun q => by rw [esg690029, oRi_1, esg690025, oAd_1])
              exact W.iret (v := v690032) hx hb hr (fun t ht hW => ⟨⟨v690032, (L, K, T, I690027, Q690027, J690027), rfl, ⟨by show REP v pa ra L K N T I690027 Q690027 J690027 (kxo (qPr σ xp hd sq ke va al).1) (qPr σ xp hd sq ke va al).1; rw [e9]; show REP v pa ra L K N T I690027 Q690027 J690027 (kxo sg690029) sg690029; rw [hk9]; exact hE, by show _ = _; rw [e9]⟩, by rw [ht]; exact hP, va_K.moved hW.alike hK, hD⟩, hS.F ht⟩) hS.2.2 dX5_produce_223
            · have kc690017 : ¬ (r690015.toInt = 0) := by have h9 := c690017; rw [xk_eq, xk_0] at h9; exact h9
              refine lv_bipush (v := (-3)) hx hb dX5_produce_161 (by decide) ?_
              refine W.widen (k := 1) (n := 8) (by omega) (by omega) ?_
              have e9 : qPr σ xp hd sq ke va al = (σ, (-3)) := by unfold qPr; rw [if_neg hit690003, if_neg hh9, cP690003, ho690013]; refine (if_pos hhd).trans ?_; refine (if_neg (fun z => z.1 c690014)).trans ?_; exact if_pos (by have z : ¬ σ.2.1 (5 * P690003 + n690013) 2 - σ.2.1 (5 * P690003 + n690013) 1 < 60 := (fun z => by rw [if_pos z] at hr690015; exact c690017 hr690015); rw [xk_lt, xsub (by omega) (by omega), show (60 : Int32).toInt = 60 by decide] at z; rw [xk_eq, xsub (by omega) (by omega), show (60 : Int32).toInt = 60 by decide]; omega)
              have hk9 : kxo σ = (kxo σ) := rfl
              exact W.iret (v := (-3)) hx hb hr (fun t ht hW => ⟨⟨(-3), (L, K, T, I, Q, J), rfl, ⟨by show REP v pa ra L K N T I Q J (kxo (qPr σ xp hd sq ke va al).1) (qPr σ xp hd sq ke va al).1; rw [e9]; show REP v pa ra L K N T I Q J (kxo σ) σ; rw [hk9]; exact hE, by show _ = _; rw [e9]⟩, by rw [ht]; exact hP, va_K.moved hW.alike hK, hD⟩, hS.F ht⟩) hS.2.2 dX5_produce_163
          · have kc690014 : ¬ (al.toInt = 0) := by have h9 := c690014; rw [xk_eq, xk_0] at h9; exact h9
            refine lv_aload hx hb dX5_produce_80 (lv_at hl 2 rfl) ?_
            obtain ⟨j690033, hj690033⟩ := pG_2 (cy := cy) (N := N) (T := T) (I := I) (Q := Q) (J := J) (hE.pL hP690003 htP690003).1 (hE.pL hP690003 htP690003).2
            refine va_get (D := (dC, dI)) (ci := 2) (v := .int (I (pa P690003) 5)) (C := RX2) (T := TX2) (N := 6) hx hb hts hi2 hown hK hP j690033 hj690033 rfl 5 (by decide) (hts (.fieldLink RX5 58 "TallyLogs$Partition" "inStep" "I") (by decide +kernel)) (fun _ h9 => h9) rfl dX5_produce_82 ?_
            refine lv_topi (fun x690034 ex690034 => ?_)
            have sx690034 : x690034 = σ.1 7 P690003 := ex690034.trans ((hE.pt P690003 hP690003).2 htP690003).2.1.2.2.2.2
            refine vp_callSi (W.runS (As := [.int x690034]) (rest := []) ⟨hx, hb, hml, hown, hts⟩ (c_J6_bitCount_0f7a4 l x690034) (va_cwS 1 hts gX5_produce_J6_bitCount_0f7a4 rfl rfl rfl (by decide +kernel) ⟨Nat.le_of_ble_eq_true rfl, Nat.le_of_ble_eq_true rfl⟩) preEq rfl rfl hl.1 rfl (lv_room (Nat.le_of_ble_eq_true rfl)) dX5_produce_85 ⟨Nat.le_of_ble_eq_true rfl, Nat.le_of_ble_eq_true rfl⟩) (fun r690035 hr690035 => ?_)
            refine lv_aload hx hb dX5_produce_88 (lv_at hl 2 rfl) ?_
            obtain ⟨j690036, hj690036⟩ := pG_2 (cy := cy) (N := N) (T := T) (I := I) (Q := Q) (J := J) (hE.pL hP690003 htP690003).1 (hE.pL hP690003 htP690003).2
            refine va_get (D := (dC, dI)) (ci := 2) (v := .int (I (pa P690003) 1)) (C := RX2) (T := TX2) (N := 6) hx hb hts hi2 hown hK hP j690036 hj690036 rfl 1 (by decide) (hts (.fieldLink RX5 95 "TallyLogs$Partition" "min" "I") (by decide +kernel)) (fun _ h9 => h9) rfl dX5_produce_90 ?_
            refine lv_topi (fun x690037 ex690037 => ?_)
            have sx690037 : x690037 = σ.1 6 P690003 := ex690037.trans ((hE.pt P690003 hP690003).2 htP690003).2.1.2.1
            refine lv_icmp_ge (tgt := 99) hx hb dX5_produce_93 (by decide) (fun c690038 => ?_) (fun c690038 => ?_)
            · have kc690038 : x690037.toInt ≤ r690035.toInt := by have h9 := c690038; rw [xk_le] at h9; exact h9
              refine lv_aloadN hx hb dX5_produce_99 (lv_at hl 1 rfl) ?_
              refine lv_ifnullN (tgt := 153) hx hb dX5_produce_101 (by decide) ?_
              refine lv_aload hx hb dX5_produce_153 (lv_at hl 0 rfl) ?_
              obtain ⟨j690040, hj690040⟩ := pG_4 (cy := cy) (N := N) (T := T) (I := I) (Q := Q) (J := J) (hE.rL hP690003 hn690013 hl690013).1 (hE.rL hP690003 hn690013 hl690013).2
              refine vp_callSi (W.runV (As := []) (rest := []) ⟨hx, hb, hml, hown, hts⟩ (g_X4_isFull l dC dI cy v L K N T I Q J pa ra (kxo σ) σ P690003 n690013 hE hP690003 hn690013 hl690013 hNl690013) (cwV 0 hts gX5_produce_X4_isFull rfl rfl rfl (by decide +kernel) ⟨Nat.le_of_ble_eq_true rfl, Nat.le_of_ble_eq_true rfl⟩) ⟨pb_blind, va_recv hK hP (ci := 4) (q0 := j690040) rfl hj690040, fun U hU hW => ⟨rfl, pb_pre hP hK hN hU hW⟩⟩ rfl rfl hl.1 rfl (lv_room (Nat.le_of_ble_eq_true rfl)) dX5_produce_155 ⟨Nat.le_of_ble_eq_true rfl, Nat.le_of_ble_eq_true rfl⟩) (fun r690039 hr690039 => ?_)
              refine lv_if_eq (tgt := 164) hx hb dX5_produce_158 (by decide) (fun c690041 => ?_) (fun c690041 => ?_)
              · have kc690041 : r690039.toInt = 0 := by have h9 := c690041; rw [xk_eq, xk_0] at h9; exact h9
                have hlt : σ.2.1 (5 * P690003 + n690013) 2 - σ.2.1 (5 * P690003 + n690013) 1 < 60 := by by_cases z : σ.2.1 (5 * P690003 + n690013) 2 - σ.2.1 (5 * P690003 + n690013) 1 < 60; (exact z); rw [if_neg z] at hr690039; exact absurd (hr690039.symm.trans c690041) (by decide)
                have h60 : (σ.2.1 (5 * P690003 + n690013) 2).toInt < (σ.2.1 (5 * P690003 + n690013) 1).toInt + 60 := by have z := hlt; rw [xk_lt, xsub (by omega) (by omega), show (60 : Int32).toInt = 60 by decide] at z; omega
                have hn60 : ¬ σ.2.1 (5 * P690003 + n690013) 2 - σ.2.1 (5 * P690003 + n690013) 1 = 60 := fun z => by rw [z] at hlt; exact absurd hlt (by decide)
                refine lv_aload hx hb dX5_produce_164 (lv_at hl 0 rfl) ?_
                refine lv_aload hx hb dX5_produce_166 (lv_at hl 2 rfl) ?_
                obtain ⟨j690042, hj690042⟩ := pG_2 (cy := cy) (N := N) (T := T) (I := I) (Q := Q) (J := J) (hE.pL hP690003 htP690003).1 (hE.pL hP690003 htP690003).2
                refine va_get (D := (dC, dI)) (ci := 2) (v := .int (I (pa P690003) 4)) (C := RX2) (T := TX2) (N := 6) hx hb hts hi2 hown hK hP j690042 hj690042 rfl 4 (by decide) (hts (.fieldLink RX5 115 "TallyLogs$Partition" "epoch" "I") (by decide +kernel)) (fun _ h9 => h9) rfl dX5_produce_168 ?_
                refine lv_topi (fun x690043 ex690043 => ?_)
                have sx690043 : x690043 = σ.1 5 P690003 := ex690043.trans ((hE.pt P690003 hP690003).2 htP690003).2.1.2.2.2.1
                refine lv_aloadN hx hb dX5_produce_171 (lv_at hl 1 rfl) ?_
                refine lv_iload_n hx hb dX5_produce_173 rfl (lv_at hl 6 rfl) ?_
                refine lv_iload hx hb dX5_produce_174 (lv_at hl 7 rfl) ?_
                refine lv_iload hx hb dX5_produce_176 (lv_at hl 8 rfl) ?_
                have hFc := pfree hD hS hA
                refine va_callr (va_runS (As := [.int x690043, .null, .int sq, .int ke, .int va]) (rest := [.ref (ra (5 * P690003 + n690013))]) ⟨hx, hb, hml, hown, hts⟩ (g_X5_newData0 l dC dI cy v L K N T I Q J s.heap.size pa ra (kxo σ) σ x690043 sq ke va hE) (va_cwS 5 hts gX5_produce_X5_newData rfl rfl rfl (by decide +kernel) ⟨Nat.le_of_ble_eq_true rfl, Nat.le_of_ble_eq_true rfl⟩) ⟨pw_blind, fun U hU hW => ⟨rfl, pw_pre hP hK hN hD hU hW⟩⟩ rfl rfl hl.1 rfl (lv_room (Nat.le_of_ble_eq_true rfl)) dX5_produce_178 ⟨Nat.le_of_ble_eq_true rfl, Nat.le_of_ble_eq_true rfl⟩) hS (fun q _ h => hFc q h) hFc (fun d9 rn690045 t H1 locs ht hvm hw hB hz1 hk1 hS => ?_)
                have hE0 := hE
                obtain ⟨L, K, T, I690044, Q690044, J690044⟩ := d9
                obtain ⟨hC, hXe, hIQ, eJ690044⟩ := hw
                obtain ⟨⟨⟨hLrn690045, hkrn690045⟩, hfrn690045⟩, hB⟩ := hB
                have eJ690044 : J690044 = J := eJ690044
                have hfrn690045 : ∀ f, f < 8 → I690044 rn690045 f = r8 x690043 0 (-1) (-1) (-1) ke va 0 f := hfrn690045
                obtain ⟨hP, hK1, hD1⟩ := hB
                rw [ht] at hP
                have hD := hD1.weaken (fun _ _ _ h => hFc _ h)
                generalize H1 = H at hP hS ⊢
                have hP : va_P (dC, dI) vwCl (va_pl L (pF cy K N T I690044 Q690044 J690044)) H := hP
                have hD : va_D A (va_pl L (pF cy K N T I690044 Q690044 J690044)) := hD
                have hR : RS v I690044 Q690044 J690044 I690044 Q690044 J690044 := RS.rf
                have hC : CT v L K N T I690044 Q690044 := hC
                have hE : REP v pa ra L K N T I690044 Q690044 J690044 (kxo σ) σ := hE0.mv hC (fun b hb => (hXe b hb).2.2.2) (fun b hb => (hIQ b hb).1) (fun b hb => (hIQ b hb).2) (fun _ _ => by rw [eJ690044])
                refine W.widen (k := 1) (n := 8) (by omega) (by omega) ?_
                obtain ⟨j690046, hj690046⟩ := pG_4 (cy := cy) (N := N) (T := T) (I := I690044) (Q := Q690044) (J := J690044) (hE.rL hP690003 hn690013 hl690013).1 (hE.rL hP690003 hn690013 hl690013).2
                have hFc := pfree hD hS hA
                refine va_callv (va_runV (As := [.ref rn690045]) (rest := []) ⟨hx, hb, hml, hown, hts⟩ (g_X4_append l dC dI cy v L K N T I690044 Q690044 J690044 H.size pa ra (kxo σ) σ P690003 n690013 rn690045 (r8 (σ.1 5 P690003) 0 (-1) (-1) (-1) ke va 0) hE hP690003 hn690013 hl690013 hNl690013 hLrn690045 hkrn690045 h60 (fun f hf9 => by rw [hfrn690045 f hf9, sx690043])) (cwV 1 hts gX5_produce_X4_append rfl rfl rfl (by decide +kernel) ⟨Nat.le_of_ble_eq_true rfl, Nat.le_of_ble_eq_true rfl⟩) ⟨pw_blind, va_recv hK hP (ci := 4) (q0 := j690046) rfl hj690046, fun U hU hW => ⟨rfl, pw_pre hP hK hN hD hU hW⟩⟩ rfl rfl hl.1 rfl (lv_room (Nat.le_of_ble_eq_true rfl)) dX5_produce_181 ⟨Nat.le_of_ble_eq_true rfl, Nat.le_of_ble_eq_true rfl⟩) hS (fun q _ h => hFc q h) hFc (fun d9 t H1 locs ht hvm hw hB hz1 hk1 hS => ?_)
                obtain ⟨I690047, Q690047, J690047⟩ := d9
                obtain ⟨hP, hK1, hD1⟩ := hB
                rw [ht] at hP
                have hD := hD1.weaken (fun _ _ _ h => hFc _ h)
                generalize H1 = H at hP hS ⊢
                have hP : va_P (dC, dI) vwCl (va_pl L (pF cy K N T I690047 Q690047 J690047)) H := hP
                have hD : va_D A (va_pl L (pF cy K N T I690047 Q690047 J690047)) := hD
                have hR : RS v I690047 Q690047 J690047 I690047 Q690047 J690047 := RS.rf
                obtain ⟨sg690049, esg690049⟩ : ∃ z, z = oAd σ (5 * P690003 + n690013) (r8 (σ.1 5 P690003) 0 (-1) (-1) (-1) ke va 0) := ⟨_, rfl⟩
                have hE : REP v pa ra L K N T I690047 Q690047 J690047 (kxo σ) sg690049 := by rw [esg690049]; exact hw
                have hC := hE.ct
                have h1sg690049 : sg690049.1 = σ.1 := by rw [esg690049]; exact rfl
                have hl690013 : lvj sg690049 P690003 n690013 := by unfold lvj; rw [h1sg690049]; exact hl690013
                have htP690003 : ¬ sg690049.1 2 P690003 = 0 := by rw [h1sg690049]; exact htP690003
                refine lv_aloadN hx hb dX5_produce_184 (lv_at hl 1 rfl) ?_
                refine lv_ifnullN (tgt := 211) hx hb dX5_produce_186 (by decide) ?_
                have hRH8 : RHp (kxo σ) sg690049 P690003 := by rw [esg690049]; exact hSK.adh hP690003 hn690013 htO690003 (fun m hm => hLA (5 * P690003 + m) (by omega)) hE9 h60 rfl
                have hRH9 := hRH8
                refine lv_aload hx hb dX5_produce_211 (lv_at hl 2 rfl) ?_
                obtain ⟨j690050, hj690050⟩ := pG_2 (cy := cy) (N := N) (T := T) (I := I690047) (Q := Q690047) (J := J690047) (hE.pL hP690003 htP690003).1 (hE.pL hP690003 htP690003).2
                have hFc := pfree hD hS hA
                refine va_callv (va_runV (As := []) (rest := []) ⟨hx, hb, hml, hown, hts⟩ (g_X2_raiseHw l dC dI cy v L K N T I690047 Q690047 J690047 H.size pa ra (kxo σ) sg690049 P690003 hE hP690003 htP690003 hRH9.1 hRH9.2.1 hRH9.2.2.1 hRH9.2.2.2) (cwV 0 hts gX5_produce_X2_raiseHw rfl rfl rfl (by decide +kernel) ⟨Nat.le_of_ble_eq_true rfl, Nat.le_of_ble_eq_true rfl⟩) ⟨pw_blind, va_recv hK hP (ci := 2) (q0 := j690050) rfl hj690050, fun U hU hW => ⟨rfl, pw_pre hP hK hN hD hU hW⟩⟩ rfl rfl hl.1 rfl (lv_room (Nat.le_of_ble_eq_true rfl)) dX5_produce_213 ⟨Nat.le_of_ble_eq_true rfl, Nat.le_of_ble_eq_true rfl⟩) hS (fun q _ h => hFc q h) hFc (fun d9 t H1 locs ht hvm hw hB hz1 hk1 hS => ?_)
                obtain ⟨I690051, Q690051, J690051⟩ := d9
                obtain ⟨hP, hK1, hD1⟩ := hB
                rw [ht] at hP
                have hD := hD1.weaken (fun _ _ _ h => hFc _ h)
                generalize H1 = H at hP hS ⊢
                have hP : va_P (dC, dI) vwCl (va_pl L (pF cy K N T I690051 Q690051 J690051)) H := hP
                have hD : va_D A (va_pl L (pF cy K N T I690051 Q690051 J690051)) := hD
                have hR : RS v I690051 Q690051 J690051 I690051 Q690051 J690051 := RS.rf
                obtain ⟨sg690053, esg690053⟩ : ∃ z, z = oRi sg690049 P690003 := ⟨_, rfl⟩
                have hE : REP v pa ra L K N T I690051 Q690051 J690051 (kxo σ) sg690053 := by rw [esg690053]; exact hw
                have hC := hE.ct
                have h1sg690053 : sg690053.1 = sg690049.1 := by rw [esg690053]; exact oRi_1 _ _
                have hl690013 : lvj sg690053 P690003 n690013 := by unfold lvj; rw [h1sg690053]; exact hl690013
                have htP690003 : ¬ sg690053.1 2 P690003 = 0 := by rw [h1sg690053]; exact htP690003
                refine lv_aload hx hb dX5_produce_216 (lv_at hl 0 rfl) ?_
                obtain ⟨j690054, hj690054⟩ := pG_4 (cy := cy) (N := N) (T := T) (I := I690051) (Q := Q690051) (J := J690051) (hE.rL hP690003 hn690013 hl690013).1 (hE.rL hP690003 hn690013 hl690013).2
                refine va_get (D := (dC, dI)) (ci := 4) (v := .int (I690051 (ra (5 * P690003 + n690013)) 2)) (C := RX4) (T := TX4) (N := 7) hx hb hts hi4 hown hK hP j690054 hj690054 rfl 2 (by decide) (hts (.fieldLink RX5 132 "TallyLogs$Replica" "end" "I") (by decide +kernel)) (fun _ h9 => h9) rfl dX5_produce_218 ?_
                refine lv_topi (fun x690055 ex690055 => ?_)
                have sx690055 : x690055 = sg690053.2.1 (5 * P690003 + n690013) 2 := ex690055.trans (hE.g hP690003 hn690013 hl690013 (by decide) (by decide) (by decide))
                have ux690055 := sx690055
                have tx690055 : x690055.toInt = (sg690053.2.1 (5 * P690003 + n690013) 2).toInt := congrArg Int32.toInt sx690055
                refine lv_iconst (v := 1) hx hb dX5_produce_221 (by decide) ?_
                refine lv_isub hx hb dX5_produce_222 ?_
                refine lv_topi (fun v690056 ev690056 => ?_)
                refine W.widen (k := 1) (n := 8) (by omega) (by omega) ?_
                have e9 : qPr σ xp hd sq ke va al = (sg690053, v690056) := by unfold qPr; rw [if_neg hit690003, if_neg hh9, cP690003, ho690013]; refine (if_pos hhd).trans ?_; refine (if_neg (fun z => z.2 (by rw [← sx690037, ← sx690034, ← hr690035]; exact c690038))).trans ?_; refine (if_neg hn60).trans ?_; have hvv : σ.2.1 (5 * P690003 + n690013) 2 = v690056 := (by rw [ev690056, ux690055, esg690053, oRi_g (by decide), esg690049, oAd_e, Int32.add_sub_cancel]); rw [oPr_n, esg690053, esg690049, ← hvv]
                have hk9 : kxo sg690053 = (kxo σ) := kxo_c (by rw [esg690053, oRi_1, esg690049, oAd_1]) (fun q => by rw [esg690053, oRi_1, esg690049, oAd_1])
                exact W.iret (v := v690056) hx hb hr (fun t ht hW => ⟨⟨v690056, (L, K, T, I690051, Q690051, J690051), rfl, ⟨by show REP v pa ra L K N T I690051 Q690051 J690051 (kxo (qPr σ xp hd sq ke va al).1) (qPr σ xp hd sq ke va al).1; rw [e9]; show REP v pa ra L K N T I690051 Q690051 J690051 (kxo sg690053) sg690053; rw [hk9]; exact hE, by show _ = _; rw [e9]⟩, by rw [ht]; exact hP, va_K.moved hW.alike hK, hD⟩, hS.F ht⟩) hS.2.2 dX5_produce_223
              · have kc690041 : ¬ (r690039.toInt = 0) := by have h9 := c690041; rw [xk_eq, xk_0] at h9; exact h9
                refine lv_bipush (v := (-3)) hx hb dX5_produce_161 (by decide) ?_
                refine W.widen (k := 1) (n := 8) (by omega) (by omega) ?_
                have e9 : qPr σ xp hd sq ke va al = (σ, (-3)) := by unfold qPr; rw [if_neg hit690003, if_neg hh9, cP690003, ho690013]; refine (if_pos hhd).trans ?_; refine (if_neg (fun z => z.2 (by rw [← sx690037, ← sx690034, ← hr690035]; exact c690038))).trans ?_; exact if_pos (by have z : ¬ σ.2.1 (5 * P690003 + n690013) 2 - σ.2.1 (5 * P690003 + n690013) 1 < 60 := (fun z => by rw [if_pos z] at hr690039; exact c690041 hr690039); rw [xk_lt, xsub (by omega) (by omega), show (60 : Int32).toInt = 60 by decide] at z; rw [xk_eq, xsub (by omega) (by omega), show (60 : Int32).toInt = 60 by decide]; omega)
                have hk9 : kxo σ = (kxo σ) := rfl
                exact W.iret (v := (-3)) hx hb hr (fun t ht hW => ⟨⟨(-3), (L, K, T, I, Q, J), rfl, ⟨by show REP v pa ra L K N T I Q J (kxo (qPr σ xp hd sq ke va al).1) (qPr σ xp hd sq ke va al).1; rw [e9]; show REP v pa ra L K N T I Q J (kxo σ) σ; rw [hk9]; exact hE, by show _ = _; rw [e9]⟩, by rw [ht]; exact hP, va_K.moved hW.alike hK, hD⟩, hS.F ht⟩) hS.2.2 dX5_produce_163
            · have kc690038 : ¬ (x690037.toInt ≤ r690035.toInt) := by have h9 := c690038; rw [xk_le] at h9; exact h9
              refine lv_bipush (v := (-5)) hx hb dX5_produce_96 (by decide) ?_
              refine W.widen (k := 1) (n := 8) (by omega) (by omega) ?_
              have e9 : qPr σ xp hd sq ke va al = (σ, (-5)) := by unfold qPr; rw [if_neg hit690003, if_neg hh9, cP690003, ho690013]; refine (if_pos hhd).trans ?_; exact if_pos ⟨c690014, fun z => c690038 (by rw [hr690035, sx690034, sx690037]; exact z)⟩
              have hk9 : kxo σ = (kxo σ) := rfl
              exact W.iret (v := (-5)) hx hb hr (fun t ht hW => ⟨⟨(-5), (L, K, T, I, Q, J), rfl, ⟨by show REP v pa ra L K N T I Q J (kxo (qPr σ xp hd sq ke va al).1) (qPr σ xp hd sq ke va al).1; rw [e9]; show REP v pa ra L K N T I Q J (kxo σ) σ; rw [hk9]; exact hE, by show _ = _; rw [e9]⟩, by rw [ht]; exact hP, va_K.moved hW.alike hK, hD⟩, hS.F ht⟩) hS.2.2 dX5_produce_98
      · have kc690010 : ¬ (hd.toInt = (-1)) := by have h9 := c690010; rw [xk_eq, (show ((-1) : Int32).toInt = -1 by decide)] at h9; exact h9
        refine lv_iconst (v := (-1)) hx hb dX5_produce_29 (by decide) ?_
        refine W.widen (k := 1) (n := 8) (by omega) (by omega) ?_
        have e9 : qPr σ xp hd sq ke va al = (σ, (-1)) := by unfold qPr; rw [if_neg hit690003, if_pos ⟨c690010, hih690009⟩]
        have hk9 : kxo σ = (kxo σ) := rfl
        exact W.iret (v := (-1)) hx hb hr (fun t ht hW => ⟨⟨(-1), (L, K, T, I, Q, J), rfl, ⟨by show REP v pa ra L K N T I Q J (kxo (qPr σ xp hd sq ke va al).1) (qPr σ xp hd sq ke va al).1; rw [e9]; show REP v pa ra L K N T I Q J (kxo σ) σ; rw [hk9]; exact hE, by show _ = _; rw [e9]⟩, by rw [ht]; exact hP, va_K.moved hW.alike hK, hD⟩, hS.F ht⟩) hS.2.2 dX5_produce_30
    · refine W.eq (g2 := F0 m 12 ls [.ref (v (4 + j690009))]) rfl ?_
      have cj690009 := nI_cl (by omega) ej690009
      refine lv_astore (lv' := [(8, .ref (v (4 + j690009))), (7, .ref (pa P690003)), (0, .ref (v 0)), (1, .int xp), (2, .int hd), (3, .int sq), (4, .int ke), (5, .int va), (6, .int al)]) hx hb dX5_produce_12 hl (by decide) rfl (fun ls hl => ?_)
      refine lv_aload hx hb dX5_produce_14 (lv_at hl 1 rfl) ?_
      refine lv_ifnull hx hb dX5_produce_16 ?_
      refine lv_aload hx hb dX5_produce_19 (lv_at hl 0 rfl) ?_
      refine lv_ifnonnull (tgt := 31) hx hb dX5_produce_21 (by decide) ?_
      have hhd : ¬ hd = -1 := fun z => hih690009 (by rw [z]; exact sp_ih_m1)
      have hh9 : ¬ (¬ hd = -1 ∧ sp_ih hd = 0) := fun z => hih690009 z.2
      refine lv_aload hx hb dX5_produce_31 (lv_at hl 1 rfl) ?_
      obtain ⟨j690058, hj690058⟩ := pG_2 (cy := cy) (N := N) (T := T) (I := I) (Q := Q) (J := J) (hE.pL hP690003 htP690003).1 (hE.pL hP690003 htP690003).2
      refine va_csq (W.runV (As := []) (rest := []) ⟨hx, hb, hml, hown, hts⟩ (g_X2_leading l dC dI cy v L K N T I Q J pa ra (kxo σ) σ P690003 hE hP690003 htP690003) (cwV 0 hts gX5_produce_X2_leading rfl rfl rfl (by decide +kernel) ⟨Nat.le_of_ble_eq_true rfl, Nat.le_of_ble_eq_true rfl⟩) ⟨pb_blind, va_recv hK hP (ci := 2) (q0 := j690058) rfl hj690058, fun U hU hW => ⟨rfl, pb_pre hP hK hN hU hW⟩⟩ rfl rfl hl.1 rfl (lv_room (Nat.le_of_ble_eq_true rfl)) dX5_produce_33 ⟨Nat.le_of_ble_eq_true rfl, Nat.le_of_ble_eq_true rfl⟩) (fun r690057 hr690057 => ?_)
      rcases hr690057 with ⟨rfl, hno690059⟩ | ⟨n690059, hn690059, en690059, hl690059, rfl⟩
      · refine W.eq (g2 := F0 m 36 ls [.null]) rfl ?_
        have ho690059 := hPL690003.no hno690059
        refine lv_astoreN (lv' := [(9, .null), (8, .ref (v (4 + j690009))), (7, .ref (pa P690003)), (0, .ref (v 0)), (1, .int xp), (2, .int hd), (3, .int sq), (4, .int ke), (5, .int va), (6, .int al)]) hx hb dX5_produce_36 hl (by decide) rfl (fun ls hl => ?_)
        refine lv_aloadN hx hb dX5_produce_38 (lv_at hl 0 rfl) ?_
        refine lv_ifnonnullN hx hb dX5_produce_40 ?_
        refine lv_bipush (v := (-2)) hx hb dX5_produce_43 (by decide) ?_
        refine W.widen (k := 1) (n := 8) (by omega) (by omega) ?_
        have e9 : qPr σ xp hd sq ke va al = (σ, (-2)) := by unfold qPr; rw [if_neg hit690003, if_neg hh9, cP690003, ho690059]
        have hk9 : kxo σ = (kxo σ) := rfl
        exact W.iret (v := (-2)) hx hb hr (fun t ht hW => ⟨⟨(-2), (L, K, T, I, Q, J), rfl, ⟨by show REP v pa ra L K N T I Q J (kxo (qPr σ xp hd sq ke va al).1) (qPr σ xp hd sq ke va al).1; rw [e9]; show REP v pa ra L K N T I Q J (kxo σ) σ; rw [hk9]; exact hE, by show _ = _; rw [e9]⟩, by rw [ht]; exact hP, va_K.moved hW.alike hK, hD⟩, hS.F ht⟩) hS.2.2 dX5_produce_45
      · refine W.eq (g2 := F0 m 36 ls [.ref (ra (5 * P690003 + n690059))]) rfl ?_
        have hst690059 := hPL690003.at hn690059 en690059
        have ho690059 := oOw_c hn690059 en690059 hst690059.2
        have hLI690059 := hLA (5 * P690003 + n690059) (by omega)
        have hNl690059 := hLI690059.ln (by omega)
        obtain ⟨q1690059, q2690059, q3690059, q4690059, q5690059, q6690059⟩ := id hLI690059
        have hRF690059 := hSK.2.1 (5 * P690003 + n690059) (by omega)
        have hlO690059 := hl690059
        refine lv_astore (lv' := [(9, .ref (ra (5 * P690003 + n690059))), (8, .ref (v (4 + j690009))), (7, .ref (pa P690003)), (0, .ref (v 0)), (1, .int xp), (2, .int hd), (3, .int sq), (4, .int ke), (5, .int va), (6, .int al)]) hx hb dX5_produce_36 hl (by decide) rfl (fun ls hl => ?_)
        refine lv_aload hx hb dX5_produce_38 (lv_at hl 0 rfl) ?_
        refine lv_ifnonnull (tgt := 46) hx hb dX5_produce_40 (by decide) ?_
        refine lv_aload hx hb dX5_produce_46 (lv_at hl 1 rfl) ?_
        refine lv_ifnull hx hb dX5_produce_48 ?_
        refine lv_aload hx hb dX5_produce_51 (lv_at hl 1 rfl) ?_
        obtain ⟨j690060, hj690060⟩ := pG_3 (cy := cy) (N := N) (T := T) (I := I) (Q := Q) (J := J) (hC.kp hj690009).1 (hC.kp hj690009).2
        refine va_get (D := (dC, dI)) (ci := 3) (v := .int (I (v (4 + j690009)) 1)) (C := RX3) (T := TX3) (N := 6) hx hb hts hi3 hown hK hP j690060 hj690060 rfl 1 (by decide) (hts (.fieldLink RX5 75 "TallyLogs$Producer" "generation" "I") (by decide +kernel)) (fun _ h9 => h9) rfl dX5_produce_53 ?_
        refine lv_topi (fun x690061 ex690061 => ?_)
        have sx690061 : x690061 = σ.1 8 j690009 := ex690061.trans (hE.pr j690009 hj690009).2.1
        refine lv_iload_n hx hb dX5_produce_56 rfl (lv_at hl 5 rfl) ?_
        refine vp_callSi (W.runS (As := [.int hd]) (rest := [.int x690061]) ⟨hx, hb, hml, hown, hts⟩ (c_X5_generationOf l hd) (va_cwS 1 hts gX5_produce_X5_generationOf rfl rfl rfl (by decide +kernel) ⟨Nat.le_of_ble_eq_true rfl, Nat.le_of_ble_eq_true rfl⟩) preEq rfl rfl hl.1 rfl (lv_room (Nat.le_of_ble_eq_true rfl)) dX5_produce_57 ⟨Nat.le_of_ble_eq_true rfl, Nat.le_of_ble_eq_true rfl⟩) (fun r690062 hr690062 => ?_)
        refine lv_icmp_ne (tgt := 72) hx hb dX5_produce_60 (by decide) (fun c690063 => ?_) (fun c690063 => ?_)
        · have kc690063 : ¬ (x690061.toInt = r690062.toInt) := by have h9 := c690063; rw [xk_eq] at h9; exact h9
          refine lv_bipush (v := (-4)) hx hb dX5_produce_72 (by decide) ?_
          refine W.widen (k := 1) (n := 8) (by omega) (by omega) ?_
          have e9 : qPr σ xp hd sq ke va al = (σ, (-4)) := by unfold qPr; rw [if_neg hit690003, if_neg hh9, cP690003, ho690059]; refine (if_neg hhd).trans ?_; rw [cj690009]; exact if_pos (Or.inl (fun z => c690063 (by rw [sx690061, hr690062]; exact z)))
          have hk9 : kxo σ = (kxo σ) := rfl
          exact W.iret (v := (-4)) hx hb hr (fun t ht hW => ⟨⟨(-4), (L, K, T, I, Q, J), rfl, ⟨by show REP v pa ra L K N T I Q J (kxo (qPr σ xp hd sq ke va al).1) (qPr σ xp hd sq ke va al).1; rw [e9]; show REP v pa ra L K N T I Q J (kxo σ) σ; rw [hk9]; exact hE, by show _ = _; rw [e9]⟩, by rw [ht]; exact hP, va_K.moved hW.alike hK, hD⟩, hS.F ht⟩) hS.2.2 dX5_produce_74
        · have kc690063 : x690061.toInt = r690062.toInt := by have h9 := c690063; rw [xk_eq] at h9; exact h9
          refine lv_aload hx hb dX5_produce_63 (lv_at hl 1 rfl) ?_
          obtain ⟨j690064, hj690064⟩ := pG_3 (cy := cy) (N := N) (T := T) (I := I) (Q := Q) (J := J) (hC.kp hj690009).1 (hC.kp hj690009).2
          refine va_get (D := (dC, dI)) (ci := 3) (v := .int (I (v (4 + j690009)) 2)) (C := RX3) (T := TX3) (N := 6) hx hb hts hi3 hown hK hP j690064 hj690064 rfl 2 (by decide) (hts (.fieldLink RX5 78 "TallyLogs$Producer" "mode" "I") (by decide +kernel)) (fun _ h9 => h9) rfl dX5_produce_65 ?_
          refine lv_topi (fun x690065 ex690065 => ?_)
          have sx690065 : x690065 = σ.1 9 j690009 := ex690065.trans (hE.pr j690009 hj690009).2.2.1
          refine lv_iconst (v := 2) hx hb dX5_produce_68 (by decide) ?_
          refine lv_icmp_ne (tgt := 75) hx hb dX5_produce_69 (by decide) (fun c690066 => ?_) (fun c690066 => ?_)
          · have kc690066 : ¬ (x690065.toInt = 2) := by have h9 := c690066; rw [xk_eq, xk_2] at h9; exact h9
            refine lv_iload hx hb dX5_produce_75 (lv_at hl 9 rfl) ?_
            refine lv_if_eq (tgt := 99) hx hb dX5_produce_77 (by decide) (fun c690067 => ?_) (fun c690067 => ?_)
            · have kc690067 : al.toInt = 0 := by have h9 := c690067; rw [xk_eq, xk_0] at h9; exact h9
              refine lv_aload hx hb dX5_produce_99 (lv_at hl 1 rfl) ?_
              refine lv_ifnull hx hb dX5_produce_101 ?_
              refine lv_aload hx hb dX5_produce_104 (lv_at hl 0 rfl) ?_
              refine lv_aload hx hb dX5_produce_106 (lv_at hl 1 rfl) ?_
              obtain ⟨j690068, hj690068⟩ := pG_3 (cy := cy) (N := N) (T := T) (I := I) (Q := Q) (J := J) (hC.kp hj690009).1 (hC.kp hj690009).2
              refine va_get (D := (dC, dI)) (ci := 3) (v := .int (I (v (4 + j690009)) 0)) (C := RX3) (T := TX3) (N := 6) hx hb hts hi3 hown hK hP j690068 hj690068 rfl 0 (by decide) (hts (.fieldLink RX5 98 "TallyLogs$Producer" "number" "I") (by decide +kernel)) (fun _ h9 => h9) rfl dX5_produce_108 ?_
              refine lv_topi (fun x690069 ex690069 => ?_)
              have sx690069 : x690069 = nI j690009 := ex690069.trans (hE.pr j690009 hj690009).1
              refine lv_aload hx hb dX5_produce_111 (lv_at hl 1 rfl) ?_
              obtain ⟨j690070, hj690070⟩ := pG_3 (cy := cy) (N := N) (T := T) (I := I) (Q := Q) (J := J) (hC.kp hj690009).1 (hC.kp hj690009).2
              refine va_get (D := (dC, dI)) (ci := 3) (v := .int (I (v (4 + j690009)) 1)) (C := RX3) (T := TX3) (N := 6) hx hb hts hi3 hown hK hP j690070 hj690070 rfl 1 (by decide) (hts (.fieldLink RX5 75 "TallyLogs$Producer" "generation" "I") (by decide +kernel)) (fun _ h9 => h9) rfl dX5_produce_113 ?_
              refine lv_topi (fun x690071 ex690071 => ?_)
              have sx690071 : x690071 = σ.1 8 j690009 := ex690071.trans (hE.pr j690009 hj690009).2.1
              refine lv_iload_n hx hb dX5_produce_116 rfl (lv_at hl 6 rfl) ?_
              have hn0 : x690069 = hd - hd / 8 * 8 := sx690069.trans ej690009.symm
              have hg9 : σ.1 8 j690009 = hd / 8 := by rw [← sx690061, ← hr690062]; exact c690063
              have hn1 : x690071 = hd / 8 := sx690071.trans hg9
              obtain ⟨j690073, hj690073⟩ := pG_4 (cy := cy) (N := N) (T := T) (I := I) (Q := Q) (J := J) (hE.rL hP690003 hn690059 hl690059).1 (hE.rL hP690003 hn690059 hl690059).2
              refine vp_callSi (W.runV (As := [.int x690069, .int x690071, .int sq]) (rest := []) ⟨hx, hb, hml, hown, hts⟩ (g_X4_offsetOf l dC dI cy v L K N T I Q J pa ra (kxo σ) σ P690003 n690059 x690069 x690071 sq hE hP690003 hn690059 hl690059 hNl690059) (cwV 3 hts gX5_produce_X4_offsetOf rfl rfl rfl (by decide +kernel) ⟨Nat.le_of_ble_eq_true rfl, Nat.le_of_ble_eq_true rfl⟩) ⟨pb_blind, va_recv hK hP (ci := 4) (q0 := j690073) rfl hj690073, fun U hU hW => ⟨rfl, pb_pre hP hK hN hU hW⟩⟩ rfl rfl hl.1 rfl (lv_room (Nat.le_of_ble_eq_true rfl)) dX5_produce_117 ⟨Nat.le_of_ble_eq_true rfl, Nat.le_of_ble_eq_true rfl⟩) (fun r690072 hr690072 => ?_)
              have hrv : r690072 = oLv (fU (pSq σ (5 * P690003 + n690059) (hd - hd / 8 * 8) (hd / 8) sq) (ze σ (5 * P690003 + n690059) - zb σ (5 * P690003 + n690059)) (zb σ (5 * P690003 + n690059))) := by rw [hr690072, hn0, hn1]
              have hzb := clT (σ.2.1 (5 * P690003 + n690059) 1)
              have hze := clT (σ.2.1 (5 * P690003 + n690059) 2)
              cases hfu : fU (pSq σ (5 * P690003 + n690059) (hd - hd / 8 * 8) (hd / 8) sq) (ze σ (5 * P690003 + n690059) - zb σ (5 * P690003 + n690059)) (zb σ (5 * P690003 + n690059)) with
              | none =>
                have hr1 : r690072 = -1 := by rw [hrv, hfu]; rfl
                refine lv_istore (lv' := [(10, .int r690072), (9, .ref (ra (5 * P690003 + n690059))), (8, .ref (v (4 + j690009))), (7, .ref (pa P690003)), (0, .ref (v 0)), (1, .int xp), (2, .int hd), (3, .int sq), (4, .int ke), (5, .int va), (6, .int al)]) hx hb dX5_produce_120 hl (by decide) rfl (fun ls hl => ?_)
                refine lv_iload hx hb dX5_produce_122 (lv_at hl 0 rfl) ?_
                refine lv_iconst (v := (-1)) hx hb dX5_produce_124 (by decide) ?_
                refine lv_icmp_eq (tgt := 131) hx hb dX5_produce_125 (by decide) (fun c690074 => ?_) (fun c690074 => ?_)
                rotate_left
                · exact absurd hr1 c690074
                refine lv_iload_n hx hb dX5_produce_131 rfl (lv_at hl 7 rfl) ?_
                refine lv_aload hx hb dX5_produce_132 (lv_at hl 1 rfl) ?_
                refine lv_aload hx hb dX5_produce_134 (lv_at hl 2 rfl) ?_
                obtain ⟨j690075, hj690075⟩ := pG_3 (cy := cy) (N := N) (T := T) (I := I) (Q := Q) (J := J) (hC.kp hj690009).1 (hC.kp hj690009).2
                refine va_get (D := (dC, dI)) (ci := 3) (v := .int (I (v (4 + j690009)) 0)) (C := RX3) (T := TX3) (N := 6) hx hb hts hi3 hown hK hP j690075 hj690075 rfl 0 (by decide) (hts (.fieldLink RX5 98 "TallyLogs$Producer" "number" "I") (by decide +kernel)) (fun _ h9 => h9) rfl dX5_produce_136 ?_
                refine lv_topi (fun x690076 ex690076 => ?_)
                have sx690076 : x690076 = nI j690009 := ex690076.trans (hE.pr j690009 hj690009).1
                refine lv_aload hx hb dX5_produce_139 (lv_at hl 2 rfl) ?_
                obtain ⟨j690077, hj690077⟩ := pG_3 (cy := cy) (N := N) (T := T) (I := I) (Q := Q) (J := J) (hC.kp hj690009).1 (hC.kp hj690009).2
                refine va_get (D := (dC, dI)) (ci := 3) (v := .int (I (v (4 + j690009)) 1)) (C := RX3) (T := TX3) (N := 6) hx hb hts hi3 hown hK hP j690077 hj690077 rfl 1 (by decide) (hts (.fieldLink RX5 75 "TallyLogs$Producer" "generation" "I") (by decide +kernel)) (fun _ h9 => h9) rfl dX5_produce_141 ?_
                refine lv_topi (fun x690078 ex690078 => ?_)
                have sx690078 : x690078 = σ.1 8 j690009 := ex690078.trans (hE.pr j690009 hj690009).2.1
                obtain ⟨j690080, hj690080⟩ := pG_4 (cy := cy) (N := N) (T := T) (I := I) (Q := Q) (J := J) (hE.rL hP690003 hn690059 hl690059).1 (hE.rL hP690003 hn690059 hl690059).2
                refine vp_callSi (W.runV (As := [.int x690076, .int x690078]) (rest := [.int sq]) ⟨hx, hb, hml, hown, hts⟩ (g_X4_nextSeq l dC dI cy v L K N T I Q J pa ra (kxo σ) σ P690003 n690059 x690076 x690078 hE hP690003 hn690059 hl690059 hNl690059) (cwV 2 hts gX5_produce_X4_nextSeq rfl rfl rfl (by decide +kernel) ⟨Nat.le_of_ble_eq_true rfl, Nat.le_of_ble_eq_true rfl⟩) ⟨pb_blind, va_recv hK hP (ci := 4) (q0 := j690080) rfl hj690080, fun U hU hW => ⟨rfl, pb_pre hP hK hN hU hW⟩⟩ rfl rfl hl.1 rfl (lv_room (Nat.le_of_ble_eq_true rfl)) dX5_produce_144 ⟨Nat.le_of_ble_eq_true rfl, Nat.le_of_ble_eq_true rfl⟩) (fun r690079 hr690079 => ?_)
                have hrq : r690079 = oNq σ (5 * P690003 + n690059) (hd - hd / 8 * 8) (hd / 8) := by rw [hr690079, sx690076.trans ej690009.symm, sx690078.trans hg9]
                cases hfd : fD (pDt σ (5 * P690003 + n690059) (hd - hd / 8 * 8) (hd / 8)) (zb σ (5 * P690003 + n690059)) (ze σ (5 * P690003 + n690059) - zb σ (5 * P690003 + n690059)) with
                | none =>
                  have hr2 : r690079 = 0 := by rw [hrq]; unfold oNq; rw [hfd]
                  refine lv_icmp_eq (tgt := 153) hx hb dX5_produce_147 (by decide) (fun c690081 => ?_) (fun c690081 => ?_)
                  · have kc690081 : sq.toInt = r690079.toInt := by have h9 := c690081; rw [xk_eq] at h9; exact h9
                    refine lv_aload hx hb dX5_produce_153 (lv_at hl 1 rfl) ?_
                    obtain ⟨j690083, hj690083⟩ := pG_4 (cy := cy) (N := N) (T := T) (I := I) (Q := Q) (J := J) (hE.rL hP690003 hn690059 hl690059).1 (hE.rL hP690003 hn690059 hl690059).2
                    refine vp_callSi (W.runV (As := []) (rest := []) ⟨hx, hb, hml, hown, hts⟩ (g_X4_isFull l dC dI cy v L K N T I Q J pa ra (kxo σ) σ P690003 n690059 hE hP690003 hn690059 hl690059 hNl690059) (cwV 0 hts gX5_produce_X4_isFull rfl rfl rfl (by decide +kernel) ⟨Nat.le_of_ble_eq_true rfl, Nat.le_of_ble_eq_true rfl⟩) ⟨pb_blind, va_recv hK hP (ci := 4) (q0 := j690083) rfl hj690083, fun U hU hW => ⟨rfl, pb_pre hP hK hN hU hW⟩⟩ rfl rfl hl.1 rfl (lv_room (Nat.le_of_ble_eq_true rfl)) dX5_produce_155 ⟨Nat.le_of_ble_eq_true rfl, Nat.le_of_ble_eq_true rfl⟩) (fun r690082 hr690082 => ?_)
                    refine lv_if_eq (tgt := 164) hx hb dX5_produce_158 (by decide) (fun c690084 => ?_) (fun c690084 => ?_)
                    · have kc690084 : r690082.toInt = 0 := by have h9 := c690084; rw [xk_eq, xk_0] at h9; exact h9
                      have hlt : σ.2.1 (5 * P690003 + n690059) 2 - σ.2.1 (5 * P690003 + n690059) 1 < 60 := by by_cases z : σ.2.1 (5 * P690003 + n690059) 2 - σ.2.1 (5 * P690003 + n690059) 1 < 60; (exact z); rw [if_neg z] at hr690082; exact absurd (hr690082.symm.trans c690084) (by decide)
                      have h60 : (σ.2.1 (5 * P690003 + n690059) 2).toInt < (σ.2.1 (5 * P690003 + n690059) 1).toInt + 60 := by have z := hlt; rw [xk_lt, xsub (by omega) (by omega), show (60 : Int32).toInt = 60 by decide] at z; omega
                      have hn60 : ¬ σ.2.1 (5 * P690003 + n690059) 2 - σ.2.1 (5 * P690003 + n690059) 1 = 60 := fun z => by rw [z] at hlt; exact absurd hlt (by decide)
                      refine lv_aload hx hb dX5_produce_164 (lv_at hl 1 rfl) ?_
                      refine lv_aload hx hb dX5_produce_166 (lv_at hl 3 rfl) ?_
                      obtain ⟨j690085, hj690085⟩ := pG_2 (cy := cy) (N := N) (T := T) (I := I) (Q := Q) (J := J) (hE.pL hP690003 htP690003).1 (hE.pL hP690003 htP690003).2
                      refine va_get (D := (dC, dI)) (ci := 2) (v := .int (I (pa P690003) 4)) (C := RX2) (T := TX2) (N := 6) hx hb hts hi2 hown hK hP j690085 hj690085 rfl 4 (by decide) (hts (.fieldLink RX5 115 "TallyLogs$Partition" "epoch" "I") (by decide +kernel)) (fun _ h9 => h9) rfl dX5_produce_168 ?_
                      refine lv_topi (fun x690086 ex690086 => ?_)
                      have sx690086 : x690086 = σ.1 5 P690003 := ex690086.trans ((hE.pt P690003 hP690003).2 htP690003).2.1.2.2.2.1
                      refine lv_aload hx hb dX5_produce_171 (lv_at hl 2 rfl) ?_
                      refine lv_iload_n hx hb dX5_produce_173 rfl (lv_at hl 7 rfl) ?_
                      refine lv_iload hx hb dX5_produce_174 (lv_at hl 8 rfl) ?_
                      refine lv_iload hx hb dX5_produce_176 (lv_at hl 9 rfl) ?_
                      have hFc := pfree hD hS hA
                      refine va_callr (va_runS (As := [.int x690086, .ref (v (4 + j690009)), .int sq, .int ke, .int va]) (rest := [.ref (ra (5 * P690003 + n690059))]) ⟨hx, hb, hml, hown, hts⟩ (g_X5_newData l dC dI cy v L K N T I Q J s.heap.size pa ra (kxo σ) σ j690009 x690086 sq ke va hE hj690009) (va_cwS 5 hts gX5_produce_X5_newData rfl rfl rfl (by decide +kernel) ⟨Nat.le_of_ble_eq_true rfl, Nat.le_of_ble_eq_true rfl⟩) ⟨pw_blind, fun U hU hW => ⟨rfl, pw_pre hP hK hN hD hU hW⟩⟩ rfl rfl hl.1 rfl (lv_room (Nat.le_of_ble_eq_true rfl)) dX5_produce_178 ⟨Nat.le_of_ble_eq_true rfl, Nat.le_of_ble_eq_true rfl⟩) hS (fun q _ h => hFc q h) hFc (fun d9 rn690088 t H1 locs ht hvm hw hB hz1 hk1 hS => ?_)
                      have hE0 := hE
                      obtain ⟨L, K, T, I690087, Q690087, J690087⟩ := d9
                      obtain ⟨hC, hXe, hIQ, eJ690087⟩ := hw
                      obtain ⟨⟨⟨hLrn690088, hkrn690088⟩, hfrn690088⟩, hB⟩ := hB
                      have eJ690087 : J690087 = J := eJ690087
                      have hfrn690088 : ∀ f, f < 8 → I690087 rn690088 f = r8 x690086 0 (nI j690009) (σ.1 8 j690009) sq ke va (if σ.1 9 j690009 = 1 then 1 else 0) f := hfrn690088
                      obtain ⟨hP, hK1, hD1⟩ := hB
                      rw [ht] at hP
                      have hD := hD1.weaken (fun _ _ _ h => hFc _ h)
                      generalize H1 = H at hP hS ⊢
                      have hP : va_P (dC, dI) vwCl (va_pl L (pF cy K N T I690087 Q690087 J690087)) H := hP
                      have hD : va_D A (va_pl L (pF cy K N T I690087 Q690087 J690087)) := hD
                      have hR : RS v I690087 Q690087 J690087 I690087 Q690087 J690087 := RS.rf
                      have hC : CT v L K N T I690087 Q690087 := hC
                      have hE : REP v pa ra L K N T I690087 Q690087 J690087 (kxo σ) σ := hE0.mv hC (fun b hb => (hXe b hb).2.2.2) (fun b hb => (hIQ b hb).1) (fun b hb => (hIQ b hb).2) (fun _ _ => by rw [eJ690087])
                      refine W.widen (k := 1) (n := 8) (by omega) (by omega) ?_
                      obtain ⟨j690089, hj690089⟩ := pG_4 (cy := cy) (N := N) (T := T) (I := I690087) (Q := Q690087) (J := J690087) (hE.rL hP690003 hn690059 hl690059).1 (hE.rL hP690003 hn690059 hl690059).2
                      have hFc := pfree hD hS hA
                      refine va_callv (va_runV (As := [.ref rn690088]) (rest := []) ⟨hx, hb, hml, hown, hts⟩ (g_X4_append l dC dI cy v L K N T I690087 Q690087 J690087 H.size pa ra (kxo σ) σ P690003 n690059 rn690088 (r8 (σ.1 5 P690003) 0 (nI j690009) (σ.1 8 j690009) sq ke va (if σ.1 9 j690009 = 1 then 1 else 0)) hE hP690003 hn690059 hl690059 hNl690059 hLrn690088 hkrn690088 h60 (fun f hf9 => by rw [hfrn690088 f hf9, sx690086])) (cwV 1 hts gX5_produce_X4_append rfl rfl rfl (by decide +kernel) ⟨Nat.le_of_ble_eq_true rfl, Nat.le_of_ble_eq_true rfl⟩) ⟨pw_blind, va_recv hK hP (ci := 4) (q0 := j690089) rfl hj690089, fun U hU hW => ⟨rfl, pw_pre hP hK hN hD hU hW⟩⟩ rfl rfl hl.1 rfl (lv_room (Nat.le_of_ble_eq_true rfl)) dX5_produce_181 ⟨Nat.le_of_ble_eq_true rfl, Nat.le_of_ble_eq_true rfl⟩) hS (fun q _ h => hFc q h) hFc (fun d9 t H1 locs ht hvm hw hB hz1 hk1 hS => ?_)
                      obtain ⟨I690090, Q690090, J690090⟩ := d9
                      obtain ⟨hP, hK1, hD1⟩ := hB
                      rw [ht] at hP
                      have hD := hD1.weaken (fun _ _ _ h => hFc _ h)
                      generalize H1 = H at hP hS ⊢
                      have hP : va_P (dC, dI) vwCl (va_pl L (pF cy K N T I690090 Q690090 J690090)) H := hP
                      have hD : va_D A (va_pl L (pF cy K N T I690090 Q690090 J690090)) := hD
                      have hR : RS v I690090 Q690090 J690090 I690090 Q690090 J690090 := RS.rf
                      obtain ⟨sg690092, esg690092⟩ : ∃ z, z = oAd σ (5 * P690003 + n690059) (r8 (σ.1 5 P690003) 0 (nI j690009) (σ.1 8 j690009) sq ke va (if σ.1 9 j690009 = 1 then 1 else 0)) := ⟨_, rfl⟩
                      have hE : REP v pa ra L K N T I690090 Q690090 J690090 (kxo σ) sg690092 := by rw [esg690092]; exact hw
                      have hC := hE.ct
                      have h1sg690092 : sg690092.1 = σ.1 := by rw [esg690092]; exact rfl
                      have hl690059 : lvj sg690092 P690003 n690059 := by unfold lvj; rw [h1sg690092]; exact hl690059
                      have htP690003 : ¬ sg690092.1 2 P690003 = 0 := by rw [h1sg690092]; exact htP690003
                      refine lv_aload hx hb dX5_produce_184 (lv_at hl 2 rfl) ?_
                      refine lv_ifnull hx hb dX5_produce_186 ?_
                      refine lv_aload hx hb dX5_produce_189 (lv_at hl 2 rfl) ?_
                      obtain ⟨j690093, hj690093⟩ := pG_3 (cy := cy) (N := N) (T := T) (I := I690090) (Q := Q690090) (J := J690090) (hC.kp hj690009).1 (hC.kp hj690009).2
                      refine va_get (D := (dC, dI)) (ci := 3) (v := .int (I690090 (v (4 + j690009)) 2)) (C := RX3) (T := TX3) (N := 6) hx hb hts hi3 hown hK hP j690093 hj690093 rfl 2 (by decide) (hts (.fieldLink RX5 78 "TallyLogs$Producer" "mode" "I") (by decide +kernel)) (fun _ h9 => h9) rfl dX5_produce_191 ?_
                      refine lv_topi (fun x690094 ex690094 => ?_)
                      have sx690094 : x690094 = sg690092.1 9 j690009 := ex690094.trans (hE.pr j690009 hj690009).2.2.1
                      have hmd : x690094 = σ.1 9 j690009 := by rw [sx690094, esg690092, oAd_1]
                      refine lv_iconst (v := 1) hx hb dX5_produce_194 (by decide) ?_
                      refine lv_icmp_ne (tgt := 211) hx hb dX5_produce_195 (by decide) (fun c690095 => ?_) (fun c690095 => ?_)
                      · have kc690095 : ¬ (x690094.toInt = 1) := by have h9 := c690095; rw [xk_eq, xk_1] at h9; exact h9
                        have hRH8 : RHp (kxo σ) sg690092 P690003 := by rw [esg690092]; exact hSK.adh hP690003 hn690059 htO690003 (fun m hm => hLA (5 * P690003 + m) (by omega)) hE9 h60 rfl
                        have hRH9 := hRH8
                        refine lv_aload hx hb dX5_produce_211 (lv_at hl 3 rfl) ?_
                        obtain ⟨j690096, hj690096⟩ := pG_2 (cy := cy) (N := N) (T := T) (I := I690090) (Q := Q690090) (J := J690090) (hE.pL hP690003 htP690003).1 (hE.pL hP690003 htP690003).2
                        have hFc := pfree hD hS hA
                        refine va_callv (va_runV (As := []) (rest := []) ⟨hx, hb, hml, hown, hts⟩ (g_X2_raiseHw l dC dI cy v L K N T I690090 Q690090 J690090 H.size pa ra (kxo σ) sg690092 P690003 hE hP690003 htP690003 hRH9.1 hRH9.2.1 hRH9.2.2.1 hRH9.2.2.2) (cwV 0 hts gX5_produce_X2_raiseHw rfl rfl rfl (by decide +kernel) ⟨Nat.le_of_ble_eq_true rfl, Nat.le_of_ble_eq_true rfl⟩) ⟨pw_blind, va_recv hK hP (ci := 2) (q0 := j690096) rfl hj690096, fun U hU hW => ⟨rfl, pw_pre hP hK hN hD hU hW⟩⟩ rfl rfl hl.1 rfl (lv_room (Nat.le_of_ble_eq_true rfl)) dX5_produce_213 ⟨Nat.le_of_ble_eq_true rfl, Nat.le_of_ble_eq_true rfl⟩) hS (fun q _ h => hFc q h) hFc (fun d9 t H1 locs ht hvm hw hB hz1 hk1 hS => ?_)
                        obtain ⟨I690097, Q690097, J690097⟩ := d9
                        obtain ⟨hP, hK1, hD1⟩ := hB
                        rw [ht] at hP
                        have hD := hD1.weaken (fun _ _ _ h => hFc _ h)
                        generalize H1 = H at hP hS ⊢
                        have hP : va_P (dC, dI) vwCl (va_pl L (pF cy K N T I690097 Q690097 J690097)) H := hP
                        have hD : va_D A (va_pl L (pF cy K N T I690097 Q690097 J690097)) := hD
                        have hR : RS v I690097 Q690097 J690097 I690097 Q690097 J690097 := RS.rf
                        obtain ⟨sg690099, esg690099⟩ : ∃ z, z = oRi sg690092 P690003 := ⟨_, rfl⟩
                        have hE : REP v pa ra L K N T I690097 Q690097 J690097 (kxo σ) sg690099 := by rw [esg690099]; exact hw
                        have hC := hE.ct
                        have h1sg690099 : sg690099.1 = sg690092.1 := by rw [esg690099]; exact oRi_1 _ _
                        have hl690059 : lvj sg690099 P690003 n690059 := by unfold lvj; rw [h1sg690099]; exact hl690059
                        have htP690003 : ¬ sg690099.1 2 P690003 = 0 := by rw [h1sg690099]; exact htP690003
                        refine lv_aload hx hb dX5_produce_216 (lv_at hl 1 rfl) ?_
                        obtain ⟨j690100, hj690100⟩ := pG_4 (cy := cy) (N := N) (T := T) (I := I690097) (Q := Q690097) (J := J690097) (hE.rL hP690003 hn690059 hl690059).1 (hE.rL hP690003 hn690059 hl690059).2
                        refine va_get (D := (dC, dI)) (ci := 4) (v := .int (I690097 (ra (5 * P690003 + n690059)) 2)) (C := RX4) (T := TX4) (N := 7) hx hb hts hi4 hown hK hP j690100 hj690100 rfl 2 (by decide) (hts (.fieldLink RX5 132 "TallyLogs$Replica" "end" "I") (by decide +kernel)) (fun _ h9 => h9) rfl dX5_produce_218 ?_
                        refine lv_topi (fun x690101 ex690101 => ?_)
                        have sx690101 : x690101 = sg690099.2.1 (5 * P690003 + n690059) 2 := ex690101.trans (hE.g hP690003 hn690059 hl690059 (by decide) (by decide) (by decide))
                        have ux690101 := sx690101
                        have tx690101 : x690101.toInt = (sg690099.2.1 (5 * P690003 + n690059) 2).toInt := congrArg Int32.toInt sx690101
                        refine lv_iconst (v := 1) hx hb dX5_produce_221 (by decide) ?_
                        refine lv_isub hx hb dX5_produce_222 ?_
                        refine lv_topi (fun v690102 ev690102 => ?_)
                        refine W.widen (k := 1) (n := 8) (by omega) (by omega) ?_
                        have e9 : qPr σ xp hd sq ke va al = (sg690099, v690102) := by unfold qPr; rw [if_neg hit690003, if_neg hh9, cP690003, ho690059]; refine (if_neg hhd).trans ?_; rw [cj690009]; refine (if_neg (fun z => z.elim (fun y => y (by rw [← sx690061, ← hr690062]; exact c690063)) (fun y => c690066 (by rw [sx690065]; exact y)))).trans ?_; refine (if_neg (fun z => z.1 c690067)).trans ?_; rw [hfu]; show (match fD _ _ _ with | none => _ | some q => _ : SG × Int32) = _; rw [hfd]; refine (if_pos (by rw [← hr2]; exact c690081)).trans ?_; refine (if_neg hn60).trans ?_; have hvv : σ.2.1 (5 * P690003 + n690059) 2 = v690102 := (by rw [ev690102, ux690101, esg690099, oRi_g (by decide), esg690092, oAd_e, Int32.add_sub_cancel]); rw [ej690009, ← hg9, oPr_c hj690009 (fun z => c690095 (by rw [hmd]; exact z)), esg690099, esg690092, if_neg (fun z => c690095 (by rw [hmd]; exact z)), ← hvv]
                        have hk9 : kxo sg690099 = (kxo σ) := kxo_c (by rw [esg690099, oRi_1, esg690092, oAd_1]) (fun q => by rw [esg690099, oRi_1, esg690092, oAd_1])
                        exact W.iret (v := v690102) hx hb hr (fun t ht hW => ⟨⟨v690102, (L, K, T, I690097, Q690097, J690097), rfl, ⟨by show REP v pa ra L K N T I690097 Q690097 J690097 (kxo (qPr σ xp hd sq ke va al).1) (qPr σ xp hd sq ke va al).1; rw [e9]; show REP v pa ra L K N T I690097 Q690097 J690097 (kxo sg690099) sg690099; rw [hk9]; exact hE, by show _ = _; rw [e9]⟩, by rw [ht]; exact hP, va_K.moved hW.alike hK, hD⟩, hS.F ht⟩) hS.2.2 dX5_produce_223
                      · have kc690095 : x690094.toInt = 1 := by have h9 := c690095; rw [xk_eq, xk_1] at h9; exact h9
                        refine lv_aload hx hb dX5_produce_198 (lv_at hl 2 rfl) ?_
                        refine lv_dup hx hb dX5_produce_200 rfl ?_
                        obtain ⟨j690103, hj690103⟩ := pG_3 (cy := cy) (N := N) (T := T) (I := I690090) (Q := Q690090) (J := J690090) (hC.kp hj690009).1 (hC.kp hj690009).2
                        refine va_get (D := (dC, dI)) (ci := 3) (v := .int (I690090 (v (4 + j690009)) 5)) (C := RX3) (T := TX3) (N := 6) hx hb hts hi3 hown hK hP j690103 hj690103 rfl 5 (by decide) (hts (.fieldLink RX5 126 "TallyLogs$Producer" "left" "I") (by decide +kernel)) (fun _ h9 => h9) rfl dX5_produce_201 ?_
                        refine lv_topi (fun x690104 ex690104 => ?_)
                        have sx690104 : x690104 = sg690092.1 10 j690009 := ex690104.trans (hE.pr j690009 hj690009).2.2.2.1
                        refine lv_iconst (v := 1) hx hb dX5_produce_204 (by decide) ?_
                        refine lv_iload_n hx hb dX5_produce_205 rfl (lv_at hl 5 rfl) ?_
                        refine lv_ishl hx hb dX5_produce_206 ?_
                        refine lv_topi (fun v690105 ev690105 => ?_)
                        refine lv_ior hx hb dX5_produce_207 ?_
                        refine lv_topi (fun v690106 ev690106 => ?_)
                        obtain ⟨j690107, hj690107⟩ := pG_3 (cy := cy) (N := N) (T := T) (I := I690090) (Q := Q690090) (J := J690090) (hC.kp hj690009).1 (hC.kp hj690009).2
                        have hDo := hD
                        refine va_put (D := (dC, dI)) (ci := 3) (v := .int v690106) (ty := .int) (C := RX3) (T := TX3) (N := 6) hx hb hts hi3 tyX3 tyX3_ok nmX3 hown hK hP hD hS j690107 hj690107 rfl 5 (by decide) (hts (.fieldLink RX5 126 "TallyLogs$Producer" "left" "I") (by decide +kernel)) (fun _ h9 => h9) rfl (by decide +kernel) rfl rfl (Nat.le_of_ble_eq_true rfl) dX5_produce_208 (fun H locs hP hD hS => ?_)
                        have hP := Eq.mp (congrArg (fun w => va_P (dC, dI) vwCl w H) (pP_3_5 (x := v690106) hDo (hC.kp hj690009).1 (hC.kp hj690009).2 hj690107)) hP
                        obtain ⟨I690108, eI690108⟩ : ∃ z, z = p2 I690090 (v (4 + j690009)) 5 v690106 := ⟨_, rfl⟩
                        rw [← eI690108] at hP
                        have hR : RS v I690108 Q690090 J690090 I690108 Q690090 J690090 := RS.rf
                        obtain ⟨sg690109, esg690109⟩ : ∃ z, z = sA sg690092 10 j690009 v690106 := ⟨_, rfl⟩
                        have hE : REP v pa ra L K N T I690108 Q690090 J690090 (kxo σ) sg690109 := by rw [esg690109, eI690108]; exact hE.wleft hj690009
                        have hl690059 : lvj sg690109 P690003 n690059 := by rw [esg690109]; exact lvj_sA hl690059 (by decide) (by decide)
                        have htP690003 : ¬ sg690109.1 2 P690003 = 0 := by rw [esg690109, sA_n (by decide)]; exact htP690003
                        have hC : CT v L K N T I690108 Q690090 := by rw [eI690108]; exact hC.pi (by rw [(hC.kp hj690009).2]; decide)
                        have hD : va_D A (va_pl L (pF cy K N T I690108 Q690090 J690090)) := pD hDo
                        have hRH8 : RHp (kxo σ) sg690092 P690003 := by rw [esg690092]; exact hSK.adh hP690003 hn690059 htO690003 (fun m hm => hLA (5 * P690003 + m) (by omega)) hE9 h60 rfl
                        have hRH9 : RHp (kxo σ) sg690109 P690003 := by rw [esg690109]; exact hRH8.s10
                        refine lv_aload hx hb dX5_produce_211 (lv_at hl 3 rfl) ?_
                        obtain ⟨j690110, hj690110⟩ := pG_2 (cy := cy) (N := N) (T := T) (I := I690108) (Q := Q690090) (J := J690090) (hE.pL hP690003 htP690003).1 (hE.pL hP690003 htP690003).2
                        have hFc := pfree hD hS hA
                        refine va_callv (va_runV (As := []) (rest := []) ⟨hx, hb, hml, hown, hts⟩ (g_X2_raiseHw l dC dI cy v L K N T I690108 Q690090 J690090 H.size pa ra (kxo σ) sg690109 P690003 hE hP690003 htP690003 hRH9.1 hRH9.2.1 hRH9.2.2.1 hRH9.2.2.2) (cwV 0 hts gX5_produce_X2_raiseHw rfl rfl rfl (by decide +kernel) ⟨Nat.le_of_ble_eq_true rfl, Nat.le_of_ble_eq_true rfl⟩) ⟨pw_blind, va_recv hK hP (ci := 2) (q0 := j690110) rfl hj690110, fun U hU hW => ⟨rfl, pw_pre hP hK hN hD hU hW⟩⟩ rfl rfl hl.1 rfl (lv_room (Nat.le_of_ble_eq_true rfl)) dX5_produce_213 ⟨Nat.le_of_ble_eq_true rfl, Nat.le_of_ble_eq_true rfl⟩) hS (fun q _ h => hFc q h) hFc (fun d9 t H1 locs ht hvm hw hB hz1 hk1 hS => ?_)
                        obtain ⟨I690111, Q690111, J690111⟩ := d9
                        obtain ⟨hP, hK1, hD1⟩ := hB
                        rw [ht] at hP
                        have hD := hD1.weaken (fun _ _ _ h => hFc _ h)
                        generalize H1 = H at hP hS ⊢
                        have hP : va_P (dC, dI) vwCl (va_pl L (pF cy K N T I690111 Q690111 J690111)) H := hP
                        have hD : va_D A (va_pl L (pF cy K N T I690111 Q690111 J690111)) := hD
                        have hR : RS v I690111 Q690111 J690111 I690111 Q690111 J690111 := RS.rf
                        obtain ⟨sg690113, esg690113⟩ : ∃ z, z = oRi sg690109 P690003 := ⟨_, rfl⟩
                        have hE : REP v pa ra L K N T I690111 Q690111 J690111 (kxo σ) sg690113 := by rw [esg690113]; exact hw
                        have hC := hE.ct
                        have h1sg690113 : sg690113.1 = sg690109.1 := by rw [esg690113]; exact oRi_1 _ _
                        have hl690059 : lvj sg690113 P690003 n690059 := by unfold lvj; rw [h1sg690113]; exact hl690059
                        have htP690003 : ¬ sg690113.1 2 P690003 = 0 := by rw [h1sg690113]; exact htP690003
                        refine lv_aload hx hb dX5_produce_216 (lv_at hl 1 rfl) ?_
                        obtain ⟨j690114, hj690114⟩ := pG_4 (cy := cy) (N := N) (T := T) (I := I690111) (Q := Q690111) (J := J690111) (hE.rL hP690003 hn690059 hl690059).1 (hE.rL hP690003 hn690059 hl690059).2
                        refine va_get (D := (dC, dI)) (ci := 4) (v := .int (I690111 (ra (5 * P690003 + n690059)) 2)) (C := RX4) (T := TX4) (N := 7) hx hb hts hi4 hown hK hP j690114 hj690114 rfl 2 (by decide) (hts (.fieldLink RX5 132 "TallyLogs$Replica" "end" "I") (by decide +kernel)) (fun _ h9 => h9) rfl dX5_produce_218 ?_
                        refine lv_topi (fun x690115 ex690115 => ?_)
                        have sx690115 : x690115 = sg690113.2.1 (5 * P690003 + n690059) 2 := ex690115.trans (hE.g hP690003 hn690059 hl690059 (by decide) (by decide) (by decide))
                        have ux690115 := sx690115
                        have tx690115 : x690115.toInt = (sg690113.2.1 (5 * P690003 + n690059) 2).toInt := congrArg Int32.toInt sx690115
                        refine lv_iconst (v := 1) hx hb dX5_produce_221 (by decide) ?_
                        refine lv_isub hx hb dX5_produce_222 ?_
                        refine lv_topi (fun v690116 ev690116 => ?_)
                        refine W.widen (k := 1) (n := 8) (by omega) (by omega) ?_
                        have e9 : qPr σ xp hd sq ke va al = (sg690113, v690116) := by unfold qPr; rw [if_neg hit690003, if_neg hh9, cP690003, ho690059]; refine (if_neg hhd).trans ?_; rw [cj690009]; refine (if_neg (fun z => z.elim (fun y => y (by rw [← sx690061, ← hr690062]; exact c690063)) (fun y => c690066 (by rw [sx690065]; exact y)))).trans ?_; refine (if_neg (fun z => z.1 c690067)).trans ?_; rw [hfu]; show (match fD _ _ _ with | none => _ | some q => _ : SG × Int32) = _; rw [hfd]; refine (if_pos (by rw [← hr2]; exact c690081)).trans ?_; refine (if_neg hn60).trans ?_; have hvv : σ.2.1 (5 * P690003 + n690059) 2 = v690116 := (by rw [ev690116, ux690115, esg690113, oRi_g (by decide), esg690109, sA_2, esg690092, oAd_e, Int32.add_sub_cancel]); have hl9 : x690104 = σ.1 10 j690009 := (by rw [sx690104, esg690092, oAd_1]); rw [ej690009, ← hg9, oPr_o hj690009 (by rw [← hmd]; exact c690095), esg690113, esg690109, ev690106, hl9, ev690105, eP690003, esg690092, if_pos (by rw [← hmd]; exact c690095), ← hvv]
                        have hk9 : kxo sg690113 = (kxo σ) := kxo_c (by rw [esg690113, oRi_1, esg690109, sA_q (by omega), esg690092, oAd_1]) (fun q => by rw [esg690113, oRi_1, esg690109, sA_q (by omega), esg690092, oAd_1])
                        exact W.iret (v := v690116) hx hb hr (fun t ht hW => ⟨⟨v690116, (L, K, T, I690111, Q690111, J690111), rfl, ⟨by show REP v pa ra L K N T I690111 Q690111 J690111 (kxo (qPr σ xp hd sq ke va al).1) (qPr σ xp hd sq ke va al).1; rw [e9]; show REP v pa ra L K N T I690111 Q690111 J690111 (kxo sg690113) sg690113; rw [hk9]; exact hE, by show _ = _; rw [e9]⟩, by rw [ht]; exact hP, va_K.moved hW.alike hK, hD⟩, hS.F ht⟩) hS.2.2 dX5_produce_223
                    · have kc690084 : ¬ (r690082.toInt = 0) := by have h9 := c690084; rw [xk_eq, xk_0] at h9; exact h9
                      refine lv_bipush (v := (-3)) hx hb dX5_produce_161 (by decide) ?_
                      refine W.widen (k := 1) (n := 8) (by omega) (by omega) ?_
                      have e9 : qPr σ xp hd sq ke va al = (σ, (-3)) := by unfold qPr; rw [if_neg hit690003, if_neg hh9, cP690003, ho690059]; refine (if_neg hhd).trans ?_; rw [cj690009]; refine (if_neg (fun z => z.elim (fun y => y (by rw [← sx690061, ← hr690062]; exact c690063)) (fun y => c690066 (by rw [sx690065]; exact y)))).trans ?_; refine (if_neg (fun z => z.1 c690067)).trans ?_; rw [hfu]; show (match fD _ _ _ with | none => _ | some q => _ : SG × Int32) = _; rw [hfd]; refine (if_pos (by rw [← hr2]; exact c690081)).trans ?_; exact if_pos (by have z : ¬ σ.2.1 (5 * P690003 + n690059) 2 - σ.2.1 (5 * P690003 + n690059) 1 < 60 := (fun z => by rw [if_pos z] at hr690082; exact c690084 hr690082); rw [xk_lt, xsub (by omega) (by omega), show (60 : Int32).toInt = 60 by decide] at z; rw [xk_eq, xsub (by omega) (by omega), show (60 : Int32).toInt = 60 by decide]; omega)
                      have hk9 : kxo σ = (kxo σ) := rfl
                      exact W.iret (v := (-3)) hx hb hr (fun t ht hW => ⟨⟨(-3), (L, K, T, I, Q, J), rfl, ⟨by show REP v pa ra L K N T I Q J (kxo (qPr σ xp hd sq ke va al).1) (qPr σ xp hd sq ke va al).1; rw [e9]; show REP v pa ra L K N T I Q J (kxo σ) σ; rw [hk9]; exact hE, by show _ = _; rw [e9]⟩, by rw [ht]; exact hP, va_K.moved hW.alike hK, hD⟩, hS.F ht⟩) hS.2.2 dX5_produce_163
                  · have kc690081 : ¬ (sq.toInt = r690079.toInt) := by have h9 := c690081; rw [xk_eq] at h9; exact h9
                    refine lv_bipush (v := (-6)) hx hb dX5_produce_150 (by decide) ?_
                    refine W.widen (k := 1) (n := 8) (by omega) (by omega) ?_
                    have e9 : qPr σ xp hd sq ke va al = (σ, (-6)) := by unfold qPr; rw [if_neg hit690003, if_neg hh9, cP690003, ho690059]; refine (if_neg hhd).trans ?_; rw [cj690009]; refine (if_neg (fun z => z.elim (fun y => y (by rw [← sx690061, ← hr690062]; exact c690063)) (fun y => c690066 (by rw [sx690065]; exact y)))).trans ?_; refine (if_neg (fun z => z.1 c690067)).trans ?_; rw [hfu]; show (match fD _ _ _ with | none => _ | some q => _ : SG × Int32) = _; rw [hfd]; exact if_neg (fun z => c690081 (by rw [hr2]; exact z))
                    have hk9 : kxo σ = (kxo σ) := rfl
                    exact W.iret (v := (-6)) hx hb hr (fun t ht hW => ⟨⟨(-6), (L, K, T, I, Q, J), rfl, ⟨by show REP v pa ra L K N T I Q J (kxo (qPr σ xp hd sq ke va al).1) (qPr σ xp hd sq ke va al).1; rw [e9]; show REP v pa ra L K N T I Q J (kxo σ) σ; rw [hk9]; exact hE, by show _ = _; rw [e9]⟩, by rw [ht]; exact hP, va_K.moved hW.alike hK, hD⟩, hS.F ht⟩) hS.2.2 dX5_produce_152
                | some q8 =>
                  have hr2 : r690079 = σ.2.2 (5 * P690003 + n690059) q8 4 + 1 := by rw [hrq]; unfold oNq; rw [hfd]
                  refine lv_icmp_eq (tgt := 153) hx hb dX5_produce_147 (by decide) (fun c690117 => ?_) (fun c690117 => ?_)
                  · have kc690117 : sq.toInt = r690079.toInt := by have h9 := c690117; rw [xk_eq] at h9; exact h9
                    refine lv_aload hx hb dX5_produce_153 (lv_at hl 1 rfl) ?_
                    obtain ⟨j690119, hj690119⟩ := pG_4 (cy := cy) (N := N) (T := T) (I := I) (Q := Q) (J := J) (hE.rL hP690003 hn690059 hl690059).1 (hE.rL hP690003 hn690059 hl690059).2
                    refine vp_callSi (W.runV (As := []) (rest := []) ⟨hx, hb, hml, hown, hts⟩ (g_X4_isFull l dC dI cy v L K N T I Q J pa ra (kxo σ) σ P690003 n690059 hE hP690003 hn690059 hl690059 hNl690059) (cwV 0 hts gX5_produce_X4_isFull rfl rfl rfl (by decide +kernel) ⟨Nat.le_of_ble_eq_true rfl, Nat.le_of_ble_eq_true rfl⟩) ⟨pb_blind, va_recv hK hP (ci := 4) (q0 := j690119) rfl hj690119, fun U hU hW => ⟨rfl, pb_pre hP hK hN hU hW⟩⟩ rfl rfl hl.1 rfl (lv_room (Nat.le_of_ble_eq_true rfl)) dX5_produce_155 ⟨Nat.le_of_ble_eq_true rfl, Nat.le_of_ble_eq_true rfl⟩) (fun r690118 hr690118 => ?_)
                    refine lv_if_eq (tgt := 164) hx hb dX5_produce_158 (by decide) (fun c690120 => ?_) (fun c690120 => ?_)
                    · have kc690120 : r690118.toInt = 0 := by have h9 := c690120; rw [xk_eq, xk_0] at h9; exact h9
                      have hlt : σ.2.1 (5 * P690003 + n690059) 2 - σ.2.1 (5 * P690003 + n690059) 1 < 60 := by by_cases z : σ.2.1 (5 * P690003 + n690059) 2 - σ.2.1 (5 * P690003 + n690059) 1 < 60; (exact z); rw [if_neg z] at hr690118; exact absurd (hr690118.symm.trans c690120) (by decide)
                      have h60 : (σ.2.1 (5 * P690003 + n690059) 2).toInt < (σ.2.1 (5 * P690003 + n690059) 1).toInt + 60 := by have z := hlt; rw [xk_lt, xsub (by omega) (by omega), show (60 : Int32).toInt = 60 by decide] at z; omega
                      have hn60 : ¬ σ.2.1 (5 * P690003 + n690059) 2 - σ.2.1 (5 * P690003 + n690059) 1 = 60 := fun z => by rw [z] at hlt; exact absurd hlt (by decide)
                      refine lv_aload hx hb dX5_produce_164 (lv_at hl 1 rfl) ?_
                      refine lv_aload hx hb dX5_produce_166 (lv_at hl 3 rfl) ?_
                      obtain ⟨j690121, hj690121⟩ := pG_2 (cy := cy) (N := N) (T := T) (I := I) (Q := Q) (J := J) (hE.pL hP690003 htP690003).1 (hE.pL hP690003 htP690003).2
                      refine va_get (D := (dC, dI)) (ci := 2) (v := .int (I (pa P690003) 4)) (C := RX2) (T := TX2) (N := 6) hx hb hts hi2 hown hK hP j690121 hj690121 rfl 4 (by decide) (hts (.fieldLink RX5 115 "TallyLogs$Partition" "epoch" "I") (by decide +kernel)) (fun _ h9 => h9) rfl dX5_produce_168 ?_
                      refine lv_topi (fun x690122 ex690122 => ?_)
                      have sx690122 : x690122 = σ.1 5 P690003 := ex690122.trans ((hE.pt P690003 hP690003).2 htP690003).2.1.2.2.2.1
                      refine lv_aload hx hb dX5_produce_171 (lv_at hl 2 rfl) ?_
                      refine lv_iload_n hx hb dX5_produce_173 rfl (lv_at hl 7 rfl) ?_
                      refine lv_iload hx hb dX5_produce_174 (lv_at hl 8 rfl) ?_
                      refine lv_iload hx hb dX5_produce_176 (lv_at hl 9 rfl) ?_
                      have hFc := pfree hD hS hA
                      refine va_callr (va_runS (As := [.int x690122, .ref (v (4 + j690009)), .int sq, .int ke, .int va]) (rest := [.ref (ra (5 * P690003 + n690059))]) ⟨hx, hb, hml, hown, hts⟩ (g_X5_newData l dC dI cy v L K N T I Q J s.heap.size pa ra (kxo σ) σ j690009 x690122 sq ke va hE hj690009) (va_cwS 5 hts gX5_produce_X5_newData rfl rfl rfl (by decide +kernel) ⟨Nat.le_of_ble_eq_true rfl, Nat.le_of_ble_eq_true rfl⟩) ⟨pw_blind, fun U hU hW => ⟨rfl, pw_pre hP hK hN hD hU hW⟩⟩ rfl rfl hl.1 rfl (lv_room (Nat.le_of_ble_eq_true rfl)) dX5_produce_178 ⟨Nat.le_of_ble_eq_true rfl, Nat.le_of_ble_eq_true rfl⟩) hS (fun q _ h => hFc q h) hFc (fun d9 rn690124 t H1 locs ht hvm hw hB hz1 hk1 hS => ?_)
                      have hE0 := hE
                      obtain ⟨L, K, T, I690123, Q690123, J690123⟩ := d9
                      obtain ⟨hC, hXe, hIQ, eJ690123⟩ := hw
                      obtain ⟨⟨⟨hLrn690124, hkrn690124⟩, hfrn690124⟩, hB⟩ := hB
                      have eJ690123 : J690123 = J := eJ690123
                      have hfrn690124 : ∀ f, f < 8 → I690123 rn690124 f = r8 x690122 0 (nI j690009) (σ.1 8 j690009) sq ke va (if σ.1 9 j690009 = 1 then 1 else 0) f := hfrn690124
                      obtain ⟨hP, hK1, hD1⟩ := hB
                      rw [ht] at hP
                      have hD := hD1.weaken (fun _ _ _ h => hFc _ h)
                      generalize H1 = H at hP hS ⊢
                      have hP : va_P (dC, dI) vwCl (va_pl L (pF cy K N T I690123 Q690123 J690123)) H := hP
                      have hD : va_D A (va_pl L (pF cy K N T I690123 Q690123 J690123)) := hD
                      have hR : RS v I690123 Q690123 J690123 I690123 Q690123 J690123 := RS.rf
                      have hC : CT v L K N T I690123 Q690123 := hC
                      have hE : REP v pa ra L K N T I690123 Q690123 J690123 (kxo σ) σ := hE0.mv hC (fun b hb => (hXe b hb).2.2.2) (fun b hb => (hIQ b hb).1) (fun b hb => (hIQ b hb).2) (fun _ _ => by rw [eJ690123])
                      refine W.widen (k := 1) (n := 8) (by omega) (by omega) ?_
                      obtain ⟨j690125, hj690125⟩ := pG_4 (cy := cy) (N := N) (T := T) (I := I690123) (Q := Q690123) (J := J690123) (hE.rL hP690003 hn690059 hl690059).1 (hE.rL hP690003 hn690059 hl690059).2
                      have hFc := pfree hD hS hA
                      refine va_callv (va_runV (As := [.ref rn690124]) (rest := []) ⟨hx, hb, hml, hown, hts⟩ (g_X4_append l dC dI cy v L K N T I690123 Q690123 J690123 H.size pa ra (kxo σ) σ P690003 n690059 rn690124 (r8 (σ.1 5 P690003) 0 (nI j690009) (σ.1 8 j690009) sq ke va (if σ.1 9 j690009 = 1 then 1 else 0)) hE hP690003 hn690059 hl690059 hNl690059 hLrn690124 hkrn690124 h60 (fun f hf9 => by rw [hfrn690124 f hf9, sx690122])) (cwV 1 hts gX5_produce_X4_append rfl rfl rfl (by decide +kernel) ⟨Nat.le_of_ble_eq_true rfl, Nat.le_of_ble_eq_true rfl⟩) ⟨pw_blind, va_recv hK hP (ci := 4) (q0 := j690125) rfl hj690125, fun U hU hW => ⟨rfl, pw_pre hP hK hN hD hU hW⟩⟩ rfl rfl hl.1 rfl (lv_room (Nat.le_of_ble_eq_true rfl)) dX5_produce_181 ⟨Nat.le_of_ble_eq_true rfl, Nat.le_of_ble_eq_true rfl⟩) hS (fun q _ h => hFc q h) hFc (fun d9 t H1 locs ht hvm hw hB hz1 hk1 hS => ?_)
                      obtain ⟨I690126, Q690126, J690126⟩ := d9
                      obtain ⟨hP, hK1, hD1⟩ := hB
                      rw [ht] at hP
                      have hD := hD1.weaken (fun _ _ _ h => hFc _ h)
                      generalize H1 = H at hP hS ⊢
                      have hP : va_P (dC, dI) vwCl (va_pl L (pF cy K N T I690126 Q690126 J690126)) H := hP
                      have hD : va_D A (va_pl L (pF cy K N T I690126 Q690126 J690126)) := hD
                      have hR : RS v I690126 Q690126 J690126 I690126 Q690126 J690126 := RS.rf
                      obtain ⟨sg690128, esg690128⟩ : ∃ z, z = oAd σ (5 * P690003 + n690059) (r8 (σ.1 5 P690003) 0 (nI j690009) (σ.1 8 j690009) sq ke va (if σ.1 9 j690009 = 1 then 1 else 0)) := ⟨_, rfl⟩
                      have hE : REP v pa ra L K N T I690126 Q690126 J690126 (kxo σ) sg690128 := by rw [esg690128]; exact hw
                      have hC := hE.ct
                      have h1sg690128 : sg690128.1 = σ.1 := by rw [esg690128]; exact rfl
                      have hl690059 : lvj sg690128 P690003 n690059 := by unfold lvj; rw [h1sg690128]; exact hl690059
                      have htP690003 : ¬ sg690128.1 2 P690003 = 0 := by rw [h1sg690128]; exact htP690003
                      refine lv_aload hx hb dX5_produce_184 (lv_at hl 2 rfl) ?_
                      refine lv_ifnull hx hb dX5_produce_186 ?_
                      refine lv_aload hx hb dX5_produce_189 (lv_at hl 2 rfl) ?_
                      obtain ⟨j690129, hj690129⟩ := pG_3 (cy := cy) (N := N) (T := T) (I := I690126) (Q := Q690126) (J := J690126) (hC.kp hj690009).1 (hC.kp hj690009).2
                      refine va_get (D := (dC, dI)) (ci := 3) (v := .int (I690126 (v (4 + j690009)) 2)) (C := RX3) (T := TX3) (N := 6) hx hb hts hi3 hown hK hP j690129 hj690129 rfl 2 (by decide) (hts (.fieldLink RX5 78 "TallyLogs$Producer" "mode" "I") (by decide +kernel)) (fun _ h9 => h9) rfl dX5_produce_191 ?_
                      refine lv_topi (fun x690130 ex690130 => ?_)
                      have sx690130 : x690130 = sg690128.1 9 j690009 := ex690130.trans (hE.pr j690009 hj690009).2.2.1
                      have hmd : x690130 = σ.1 9 j690009 := by rw [sx690130, esg690128, oAd_1]
                      refine lv_iconst (v := 1) hx hb dX5_produce_194 (by decide) ?_
                      refine lv_icmp_ne (tgt := 211) hx hb dX5_produce_195 (by decide) (fun c690131 => ?_) (fun c690131 => ?_)
                      · have kc690131 : ¬ (x690130.toInt = 1) := by have h9 := c690131; rw [xk_eq, xk_1] at h9; exact h9
                        have hRH8 : RHp (kxo σ) sg690128 P690003 := by rw [esg690128]; exact hSK.adh hP690003 hn690059 htO690003 (fun m hm => hLA (5 * P690003 + m) (by omega)) hE9 h60 rfl
                        have hRH9 := hRH8
                        refine lv_aload hx hb dX5_produce_211 (lv_at hl 3 rfl) ?_
                        obtain ⟨j690132, hj690132⟩ := pG_2 (cy := cy) (N := N) (T := T) (I := I690126) (Q := Q690126) (J := J690126) (hE.pL hP690003 htP690003).1 (hE.pL hP690003 htP690003).2
                        have hFc := pfree hD hS hA
                        refine va_callv (va_runV (As := []) (rest := []) ⟨hx, hb, hml, hown, hts⟩ (g_X2_raiseHw l dC dI cy v L K N T I690126 Q690126 J690126 H.size pa ra (kxo σ) sg690128 P690003 hE hP690003 htP690003 hRH9.1 hRH9.2.1 hRH9.2.2.1 hRH9.2.2.2) (cwV 0 hts gX5_produce_X2_raiseHw rfl rfl rfl (by decide +kernel) ⟨Nat.le_of_ble_eq_true rfl, Nat.le_of_ble_eq_true rfl⟩) ⟨pw_blind, va_recv hK hP (ci := 2) (q0 := j690132) rfl hj690132, fun U hU hW => ⟨rfl, pw_pre hP hK hN hD hU hW⟩⟩ rfl rfl hl.1 rfl (lv_room (Nat.le_of_ble_eq_true rfl)) dX5_produce_213 ⟨Nat.le_of_ble_eq_true rfl, Nat.le_of_ble_eq_true rfl⟩) hS (fun q _ h => hFc q h) hFc (fun d9 t H1 locs ht hvm hw hB hz1 hk1 hS => ?_)
                        obtain ⟨I690133, Q690133, J690133⟩ := d9
                        obtain ⟨hP, hK1, hD1⟩ := hB
                        rw [ht] at hP
                        have hD := hD1.weaken (fun _ _ _ h => hFc _ h)
                        generalize H1 = H at hP hS ⊢
                        have hP : va_P (dC, dI) vwCl (va_pl L (pF cy K N T I690133 Q690133 J690133)) H := hP
                        have hD : va_D A (va_pl L (pF cy K N T I690133 Q690133 J690133)) := hD
                        have hR : RS v I690133 Q690133 J690133 I690133 Q690133 J690133 := RS.rf
                        obtain ⟨sg690135, esg690135⟩ : ∃ z, z = oRi sg690128 P690003 := ⟨_, rfl⟩
                        have hE : REP v pa ra L K N T I690133 Q690133 J690133 (kxo σ) sg690135 := by rw [esg690135]; exact hw
                        have hC := hE.ct
                        have h1sg690135 : sg690135.1 = sg690128.1 := by rw [esg690135]; exact oRi_1 _ _
                        have hl690059 : lvj sg690135 P690003 n690059 := by unfold lvj; rw [h1sg690135]; exact hl690059
                        have htP690003 : ¬ sg690135.1 2 P690003 = 0 := by rw [h1sg690135]; exact htP690003
                        refine lv_aload hx hb dX5_produce_216 (lv_at hl 1 rfl) ?_
                        obtain ⟨j690136, hj690136⟩ := pG_4 (cy := cy) (N := N) (T := T) (I := I690133) (Q := Q690133) (J := J690133) (hE.rL hP690003 hn690059 hl690059).1 (hE.rL hP690003 hn690059 hl690059).2
                        refine va_get (D := (dC, dI)) (ci := 4) (v := .int (I690133 (ra (5 * P690003 + n690059)) 2)) (C := RX4) (T := TX4) (N := 7) hx hb hts hi4 hown hK hP j690136 hj690136 rfl 2 (by decide) (hts (.fieldLink RX5 132 "TallyLogs$Replica" "end" "I") (by decide +kernel)) (fun _ h9 => h9) rfl dX5_produce_218 ?_
                        refine lv_topi (fun x690137 ex690137 => ?_)
                        have sx690137 : x690137 = sg690135.2.1 (5 * P690003 + n690059) 2 := ex690137.trans (hE.g hP690003 hn690059 hl690059 (by decide) (by decide) (by decide))
                        have ux690137 := sx690137
                        have tx690137 : x690137.toInt = (sg690135.2.1 (5 * P690003 + n690059) 2).toInt := congrArg Int32.toInt sx690137
                        refine lv_iconst (v := 1) hx hb dX5_produce_221 (by decide) ?_
                        refine lv_isub hx hb dX5_produce_222 ?_
                        refine lv_topi (fun v690138 ev690138 => ?_)
                        refine W.widen (k := 1) (n := 8) (by omega) (by omega) ?_
                        have e9 : qPr σ xp hd sq ke va al = (sg690135, v690138) := by unfold qPr; rw [if_neg hit690003, if_neg hh9, cP690003, ho690059]; refine (if_neg hhd).trans ?_; rw [cj690009]; refine (if_neg (fun z => z.elim (fun y => y (by rw [← sx690061, ← hr690062]; exact c690063)) (fun y => c690066 (by rw [sx690065]; exact y)))).trans ?_; refine (if_neg (fun z => z.1 c690067)).trans ?_; rw [hfu]; show (match fD _ _ _ with | none => _ | some q => _ : SG × Int32) = _; rw [hfd]; refine (if_pos (by rw [← hr2]; exact c690117)).trans ?_; refine (if_neg hn60).trans ?_; have hvv : σ.2.1 (5 * P690003 + n690059) 2 = v690138 := (by rw [ev690138, ux690137, esg690135, oRi_g (by decide), esg690128, oAd_e, Int32.add_sub_cancel]); rw [ej690009, ← hg9, oPr_c hj690009 (fun z => c690131 (by rw [hmd]; exact z)), esg690135, esg690128, if_neg (fun z => c690131 (by rw [hmd]; exact z)), ← hvv]
                        have hk9 : kxo sg690135 = (kxo σ) := kxo_c (by rw [esg690135, oRi_1, esg690128, oAd_1]) (fun q => by rw [esg690135, oRi_1, esg690128, oAd_1])
                        exact W.iret (v := v690138) hx hb hr (fun t ht hW => ⟨⟨v690138, (L, K, T, I690133, Q690133, J690133), rfl, ⟨by show REP v pa ra L K N T I690133 Q690133 J690133 (kxo (qPr σ xp hd sq ke va al).1) (qPr σ xp hd sq ke va al).1; rw [e9]; show REP v pa ra L K N T I690133 Q690133 J690133 (kxo sg690135) sg690135; rw [hk9]; exact hE, by show _ = _; rw [e9]⟩, by rw [ht]; exact hP, va_K.moved hW.alike hK, hD⟩, hS.F ht⟩) hS.2.2 dX5_produce_223
                      · have kc690131 : x690130.toInt = 1 := by have h9 := c690131; rw [xk_eq, xk_1] at h9; exact h9
                        refine lv_aload hx hb dX5_produce_198 (lv_at hl 2 rfl) ?_
                        refine lv_dup hx hb dX5_produce_200 rfl ?_
                        obtain ⟨j690139, hj690139⟩ := pG_3 (cy := cy) (N := N) (T := T) (I := I690126) (Q := Q690126) (J := J690126) (hC.kp hj690009).1 (hC.kp hj690009).2
                        refine va_get (D := (dC, dI)) (ci := 3) (v := .int (I690126 (v (4 + j690009)) 5)) (C := RX3) (T := TX3) (N := 6) hx hb hts hi3 hown hK hP j690139 hj690139 rfl 5 (by decide) (hts (.fieldLink RX5 126 "TallyLogs$Producer" "left" "I") (by decide +kernel)) (fun _ h9 => h9) rfl dX5_produce_201 ?_
                        refine lv_topi (fun x690140 ex690140 => ?_)
                        have sx690140 : x690140 = sg690128.1 10 j690009 := ex690140.trans (hE.pr j690009 hj690009).2.2.2.1
                        refine lv_iconst (v := 1) hx hb dX5_produce_204 (by decide) ?_
                        refine lv_iload_n hx hb dX5_produce_205 rfl (lv_at hl 5 rfl) ?_
                        refine lv_ishl hx hb dX5_produce_206 ?_
                        refine lv_topi (fun v690141 ev690141 => ?_)
                        refine lv_ior hx hb dX5_produce_207 ?_
                        refine lv_topi (fun v690142 ev690142 => ?_)
                        obtain ⟨j690143, hj690143⟩ := pG_3 (cy := cy) (N := N) (T := T) (I := I690126) (Q := Q690126) (J := J690126) (hC.kp hj690009).1 (hC.kp hj690009).2
                        have hDo := hD
                        refine va_put (D := (dC, dI)) (ci := 3) (v := .int v690142) (ty := .int) (C := RX3) (T := TX3) (N := 6) hx hb hts hi3 tyX3 tyX3_ok nmX3 hown hK hP hD hS j690143 hj690143 rfl 5 (by decide) (hts (.fieldLink RX5 126 "TallyLogs$Producer" "left" "I") (by decide +kernel)) (fun _ h9 => h9) rfl (by decide +kernel) rfl rfl (Nat.le_of_ble_eq_true rfl) dX5_produce_208 (fun H locs hP hD hS => ?_)
                        have hP := Eq.mp (congrArg (fun w => va_P (dC, dI) vwCl w H) (pP_3_5 (x := v690142) hDo (hC.kp hj690009).1 (hC.kp hj690009).2 hj690143)) hP
                        obtain ⟨I690144, eI690144⟩ : ∃ z, z = p2 I690126 (v (4 + j690009)) 5 v690142 := ⟨_, rfl⟩
                        rw [← eI690144] at hP
                        have hR : RS v I690144 Q690126 J690126 I690144 Q690126 J690126 := RS.rf
                        obtain ⟨sg690145, esg690145⟩ : ∃ z, z = sA sg690128 10 j690009 v690142 := ⟨_, rfl⟩
                        have hE : REP v pa ra L K N T I690144 Q690126 J690126 (kxo σ) sg690145 := by rw [esg690145, eI690144]; exact hE.wleft hj690009
                        have hl690059 : lvj sg690145 P690003 n690059 := by rw [esg690145]; exact lvj_sA hl690059 (by decide) (by decide)
                        have htP690003 : ¬ sg690145.1 2 P690003 = 0 := by rw [esg690145, sA_n (by decide)]; exact htP690003
                        have hC : CT v L K N T I690144 Q690126 := by rw [eI690144]; exact hC.pi (by rw [(hC.kp hj690009).2]; decide)
                        have hD : va_D A (va_pl L (pF cy K N T I690144 Q690126 J690126)) := pD hDo
                        have hRH8 : RHp (kxo σ) sg690128 P690003 := by rw [esg690128]; exact hSK.adh hP690003 hn690059 htO690003 (fun m hm => hLA (5 * P690003 + m) (by omega)) hE9 h60 rfl
                        have hRH9 : RHp (kxo σ) sg690145 P690003 := by rw [esg690145]; exact hRH8.s10
                        refine lv_aload hx hb dX5_produce_211 (lv_at hl 3 rfl) ?_
                        obtain ⟨j690146, hj690146⟩ := pG_2 (cy := cy) (N := N) (T := T) (I := I690144) (Q := Q690126) (J := J690126) (hE.pL hP690003 htP690003).1 (hE.pL hP690003 htP690003).2
                        have hFc := pfree hD hS hA
                        refine va_callv (va_runV (As := []) (rest := []) ⟨hx, hb, hml, hown, hts⟩ (g_X2_raiseHw l dC dI cy v L K N T I690144 Q690126 J690126 H.size pa ra (kxo σ) sg690145 P690003 hE hP690003 htP690003 hRH9.1 hRH9.2.1 hRH9.2.2.1 hRH9.2.2.2) (cwV 0 hts gX5_produce_X2_raiseHw rfl rfl rfl (by decide +kernel) ⟨Nat.le_of_ble_eq_true rfl, Nat.le_of_ble_eq_true rfl⟩) ⟨pw_blind, va_recv hK hP (ci := 2) (q0 := j690146) rfl hj690146, fun U hU hW => ⟨rfl, pw_pre hP hK hN hD hU hW⟩⟩ rfl rfl hl.1 rfl (lv_room (Nat.le_of_ble_eq_true rfl)) dX5_produce_213 ⟨Nat.le_of_ble_eq_true rfl, Nat.le_of_ble_eq_true rfl⟩) hS (fun q _ h => hFc q h) hFc (fun d9 t H1 locs ht hvm hw hB hz1 hk1 hS => ?_)
                        obtain ⟨I690147, Q690147, J690147⟩ := d9
                        obtain ⟨hP, hK1, hD1⟩ := hB
                        rw [ht] at hP
                        have hD := hD1.weaken (fun _ _ _ h => hFc _ h)
                        generalize H1 = H at hP hS ⊢
                        have hP : va_P (dC, dI) vwCl (va_pl L (pF cy K N T I690147 Q690147 J690147)) H := hP
                        have hD : va_D A (va_pl L (pF cy K N T I690147 Q690147 J690147)) := hD
                        have hR : RS v I690147 Q690147 J690147 I690147 Q690147 J690147 := RS.rf
                        obtain ⟨sg690149, esg690149⟩ : ∃ z, z = oRi sg690145 P690003 := ⟨_, rfl⟩
                        have hE : REP v pa ra L K N T I690147 Q690147 J690147 (kxo σ) sg690149 := by rw [esg690149]; exact hw
                        have hC := hE.ct
                        have h1sg690149 : sg690149.1 = sg690145.1 := by rw [esg690149]; exact oRi_1 _ _
                        have hl690059 : lvj sg690149 P690003 n690059 := by unfold lvj; rw [h1sg690149]; exact hl690059
                        have htP690003 : ¬ sg690149.1 2 P690003 = 0 := by rw [h1sg690149]; exact htP690003
                        refine lv_aload hx hb dX5_produce_216 (lv_at hl 1 rfl) ?_
                        obtain ⟨j690150, hj690150⟩ := pG_4 (cy := cy) (N := N) (T := T) (I := I690147) (Q := Q690147) (J := J690147) (hE.rL hP690003 hn690059 hl690059).1 (hE.rL hP690003 hn690059 hl690059).2
                        refine va_get (D := (dC, dI)) (ci := 4) (v := .int (I690147 (ra (5 * P690003 + n690059)) 2)) (C := RX4) (T := TX4) (N := 7) hx hb hts hi4 hown hK hP j690150 hj690150 rfl 2 (by decide) (hts (.fieldLink RX5 132 "TallyLogs$Replica" "end" "I") (by decide +kernel)) (fun _ h9 => h9) rfl dX5_produce_218 ?_
                        refine lv_topi (fun x690151 ex690151 => ?_)
                        have sx690151 : x690151 = sg690149.2.1 (5 * P690003 + n690059) 2 := ex690151.trans (hE.g hP690003 hn690059 hl690059 (by decide) (by decide) (by decide))
                        have ux690151 := sx690151
                        have tx690151 : x690151.toInt = (sg690149.2.1 (5 * P690003 + n690059) 2).toInt := congrArg Int32.toInt sx690151
                        refine lv_iconst (v := 1) hx hb dX5_produce_221 (by decide) ?_
                        refine lv_isub hx hb dX5_produce_222 ?_
                        refine lv_topi (fun v690152 ev690152 => ?_)
                        refine W.widen (k := 1) (n := 8) (by omega) (by omega) ?_
                        have e9 : qPr σ xp hd sq ke va al = (sg690149, v690152) := by unfold qPr; rw [if_neg hit690003, if_neg hh9, cP690003, ho690059]; refine (if_neg hhd).trans ?_; rw [cj690009]; refine (if_neg (fun z => z.elim (fun y => y (by rw [← sx690061, ← hr690062]; exact c690063)) (fun y => c690066 (by rw [sx690065]; exact y)))).trans ?_; refine (if_neg (fun z => z.1 c690067)).trans ?_; rw [hfu]; show (match fD _ _ _ with | none => _ | some q => _ : SG × Int32) = _; rw [hfd]; refine (if_pos (by rw [← hr2]; exact c690117)).trans ?_; refine (if_neg hn60).trans ?_; have hvv : σ.2.1 (5 * P690003 + n690059) 2 = v690152 := (by rw [ev690152, ux690151, esg690149, oRi_g (by decide), esg690145, sA_2, esg690128, oAd_e, Int32.add_sub_cancel]); have hl9 : x690140 = σ.1 10 j690009 := (by rw [sx690140, esg690128, oAd_1]); rw [ej690009, ← hg9, oPr_o hj690009 (by rw [← hmd]; exact c690131), esg690149, esg690145, ev690142, hl9, ev690141, eP690003, esg690128, if_pos (by rw [← hmd]; exact c690131), ← hvv]
                        have hk9 : kxo sg690149 = (kxo σ) := kxo_c (by rw [esg690149, oRi_1, esg690145, sA_q (by omega), esg690128, oAd_1]) (fun q => by rw [esg690149, oRi_1, esg690145, sA_q (by omega), esg690128, oAd_1])
                        exact W.iret (v := v690152) hx hb hr (fun t ht hW => ⟨⟨v690152, (L, K, T, I690147, Q690147, J690147), rfl, ⟨by show REP v pa ra L K N T I690147 Q690147 J690147 (kxo (qPr σ xp hd sq ke va al).1) (qPr σ xp hd sq ke va al).1; rw [e9]; show REP v pa ra L K N T I690147 Q690147 J690147 (kxo sg690149) sg690149; rw [hk9]; exact hE, by show _ = _; rw [e9]⟩, by rw [ht]; exact hP, va_K.moved hW.alike hK, hD⟩, hS.F ht⟩) hS.2.2 dX5_produce_223
                    · have kc690120 : ¬ (r690118.toInt = 0) := by have h9 := c690120; rw [xk_eq, xk_0] at h9; exact h9
                      refine lv_bipush (v := (-3)) hx hb dX5_produce_161 (by decide) ?_
                      refine W.widen (k := 1) (n := 8) (by omega) (by omega) ?_
                      have e9 : qPr σ xp hd sq ke va al = (σ, (-3)) := by unfold qPr; rw [if_neg hit690003, if_neg hh9, cP690003, ho690059]; refine (if_neg hhd).trans ?_; rw [cj690009]; refine (if_neg (fun z => z.elim (fun y => y (by rw [← sx690061, ← hr690062]; exact c690063)) (fun y => c690066 (by rw [sx690065]; exact y)))).trans ?_; refine (if_neg (fun z => z.1 c690067)).trans ?_; rw [hfu]; show (match fD _ _ _ with | none => _ | some q => _ : SG × Int32) = _; rw [hfd]; refine (if_pos (by rw [← hr2]; exact c690117)).trans ?_; exact if_pos (by have z : ¬ σ.2.1 (5 * P690003 + n690059) 2 - σ.2.1 (5 * P690003 + n690059) 1 < 60 := (fun z => by rw [if_pos z] at hr690118; exact c690120 hr690118); rw [xk_lt, xsub (by omega) (by omega), show (60 : Int32).toInt = 60 by decide] at z; rw [xk_eq, xsub (by omega) (by omega), show (60 : Int32).toInt = 60 by decide]; omega)
                      have hk9 : kxo σ = (kxo σ) := rfl
                      exact W.iret (v := (-3)) hx hb hr (fun t ht hW => ⟨⟨(-3), (L, K, T, I, Q, J), rfl, ⟨by show REP v pa ra L K N T I Q J (kxo (qPr σ xp hd sq ke va al).1) (qPr σ xp hd sq ke va al).1; rw [e9]; show REP v pa ra L K N T I Q J (kxo σ) σ; rw [hk9]; exact hE, by show _ = _; rw [e9]⟩, by rw [ht]; exact hP, va_K.moved hW.alike hK, hD⟩, hS.F ht⟩) hS.2.2 dX5_produce_163
                  · have kc690117 : ¬ (sq.toInt = r690079.toInt) := by have h9 := c690117; rw [xk_eq] at h9; exact h9
                    refine lv_bipush (v := (-6)) hx hb dX5_produce_150 (by decide) ?_
                    refine W.widen (k := 1) (n := 8) (by omega) (by omega) ?_
                    have e9 : qPr σ xp hd sq ke va al = (σ, (-6)) := by unfold qPr; rw [if_neg hit690003, if_neg hh9, cP690003, ho690059]; refine (if_neg hhd).trans ?_; rw [cj690009]; refine (if_neg (fun z => z.elim (fun y => y (by rw [← sx690061, ← hr690062]; exact c690063)) (fun y => c690066 (by rw [sx690065]; exact y)))).trans ?_; refine (if_neg (fun z => z.1 c690067)).trans ?_; rw [hfu]; show (match fD _ _ _ with | none => _ | some q => _ : SG × Int32) = _; rw [hfd]; exact if_neg (fun z => c690117 (by rw [hr2]; exact z))
                    have hk9 : kxo σ = (kxo σ) := rfl
                    exact W.iret (v := (-6)) hx hb hr (fun t ht hW => ⟨⟨(-6), (L, K, T, I, Q, J), rfl, ⟨by show REP v pa ra L K N T I Q J (kxo (qPr σ xp hd sq ke va al).1) (qPr σ xp hd sq ke va al).1; rw [e9]; show REP v pa ra L K N T I Q J (kxo σ) σ; rw [hk9]; exact hE, by show _ = _; rw [e9]⟩, by rw [ht]; exact hP, va_K.moved hW.alike hK, hD⟩, hS.F ht⟩) hS.2.2 dX5_produce_152
              | some q9 =>
                have hr1 : r690072 = nI q9 := by rw [hrv, hfu]; rfl
                obtain ⟨hq1, hq2, _⟩ := fU_lt hfu
                have hne1 : ¬ r690072 = -1 := by unfold zb ze at hq2; rw [hr1, xk_eq, nI_toInt (by omega), show (-1 : Int32).toInt = -1 by decide]; omega
                refine lv_istore (lv' := [(10, .int r690072), (9, .ref (ra (5 * P690003 + n690059))), (8, .ref (v (4 + j690009))), (7, .ref (pa P690003)), (0, .ref (v 0)), (1, .int xp), (2, .int hd), (3, .int sq), (4, .int ke), (5, .int va), (6, .int al)]) hx hb dX5_produce_120 hl (by decide) rfl (fun ls hl => ?_)
                refine lv_iload hx hb dX5_produce_122 (lv_at hl 0 rfl) ?_
                refine lv_iconst (v := (-1)) hx hb dX5_produce_124 (by decide) ?_
                refine lv_icmp_eq (tgt := 131) hx hb dX5_produce_125 (by decide) (fun c690153 => ?_) (fun c690153 => ?_)
                · exact absurd c690153 hne1
                refine lv_iload hx hb dX5_produce_128 (lv_at hl 0 rfl) ?_
                refine W.widen (k := 1) (n := 8) (by omega) (by omega) ?_
                have e9 : qPr σ xp hd sq ke va al = (σ, r690072) := by unfold qPr; rw [if_neg hit690003, if_neg hh9, cP690003, ho690059]; refine (if_neg hhd).trans ?_; rw [cj690009]; refine (if_neg (fun z => z.elim (fun y => y (by rw [← sx690061, ← hr690062]; exact c690063)) (fun y => c690066 (by rw [sx690065]; exact y)))).trans ?_; refine (if_neg (fun z => z.1 c690067)).trans ?_; rw [hfu]; show (σ, nI q9) = _; rw [hr1]
                have hk9 : kxo σ = (kxo σ) := rfl
                exact W.iret (v := r690072) hx hb hr (fun t ht hW => ⟨⟨r690072, (L, K, T, I, Q, J), rfl, ⟨by show REP v pa ra L K N T I Q J (kxo (qPr σ xp hd sq ke va al).1) (qPr σ xp hd sq ke va al).1; rw [e9]; show REP v pa ra L K N T I Q J (kxo σ) σ; rw [hk9]; exact hE, by show _ = _; rw [e9]⟩, by rw [ht]; exact hP, va_K.moved hW.alike hK, hD⟩, hS.F ht⟩) hS.2.2 dX5_produce_130
            · have kc690067 : ¬ (al.toInt = 0) := by have h9 := c690067; rw [xk_eq, xk_0] at h9; exact h9
              refine lv_aload hx hb dX5_produce_80 (lv_at hl 2 rfl) ?_
              obtain ⟨j690154, hj690154⟩ := pG_2 (cy := cy) (N := N) (T := T) (I := I) (Q := Q) (J := J) (hE.pL hP690003 htP690003).1 (hE.pL hP690003 htP690003).2
              refine va_get (D := (dC, dI)) (ci := 2) (v := .int (I (pa P690003) 5)) (C := RX2) (T := TX2) (N := 6) hx hb hts hi2 hown hK hP j690154 hj690154 rfl 5 (by decide) (hts (.fieldLink RX5 58 "TallyLogs$Partition" "inStep" "I") (by decide +kernel)) (fun _ h9 => h9) rfl dX5_produce_82 ?_
              refine lv_topi (fun x690155 ex690155 => ?_)
              have sx690155 : x690155 = σ.1 7 P690003 := ex690155.trans ((hE.pt P690003 hP690003).2 htP690003).2.1.2.2.2.2
              refine vp_callSi (W.runS (As := [.int x690155]) (rest := []) ⟨hx, hb, hml, hown, hts⟩ (c_J6_bitCount_0f7a4 l x690155) (va_cwS 1 hts gX5_produce_J6_bitCount_0f7a4 rfl rfl rfl (by decide +kernel) ⟨Nat.le_of_ble_eq_true rfl, Nat.le_of_ble_eq_true rfl⟩) preEq rfl rfl hl.1 rfl (lv_room (Nat.le_of_ble_eq_true rfl)) dX5_produce_85 ⟨Nat.le_of_ble_eq_true rfl, Nat.le_of_ble_eq_true rfl⟩) (fun r690156 hr690156 => ?_)
              refine lv_aload hx hb dX5_produce_88 (lv_at hl 2 rfl) ?_
              obtain ⟨j690157, hj690157⟩ := pG_2 (cy := cy) (N := N) (T := T) (I := I) (Q := Q) (J := J) (hE.pL hP690003 htP690003).1 (hE.pL hP690003 htP690003).2
              refine va_get (D := (dC, dI)) (ci := 2) (v := .int (I (pa P690003) 1)) (C := RX2) (T := TX2) (N := 6) hx hb hts hi2 hown hK hP j690157 hj690157 rfl 1 (by decide) (hts (.fieldLink RX5 95 "TallyLogs$Partition" "min" "I") (by decide +kernel)) (fun _ h9 => h9) rfl dX5_produce_90 ?_
              refine lv_topi (fun x690158 ex690158 => ?_)
              have sx690158 : x690158 = σ.1 6 P690003 := ex690158.trans ((hE.pt P690003 hP690003).2 htP690003).2.1.2.1
              refine lv_icmp_ge (tgt := 99) hx hb dX5_produce_93 (by decide) (fun c690159 => ?_) (fun c690159 => ?_)
              · have kc690159 : x690158.toInt ≤ r690156.toInt := by have h9 := c690159; rw [xk_le] at h9; exact h9
                refine lv_aload hx hb dX5_produce_99 (lv_at hl 1 rfl) ?_
                refine lv_ifnull hx hb dX5_produce_101 ?_
                refine lv_aload hx hb dX5_produce_104 (lv_at hl 0 rfl) ?_
                refine lv_aload hx hb dX5_produce_106 (lv_at hl 1 rfl) ?_
                obtain ⟨j690160, hj690160⟩ := pG_3 (cy := cy) (N := N) (T := T) (I := I) (Q := Q) (J := J) (hC.kp hj690009).1 (hC.kp hj690009).2
                refine va_get (D := (dC, dI)) (ci := 3) (v := .int (I (v (4 + j690009)) 0)) (C := RX3) (T := TX3) (N := 6) hx hb hts hi3 hown hK hP j690160 hj690160 rfl 0 (by decide) (hts (.fieldLink RX5 98 "TallyLogs$Producer" "number" "I") (by decide +kernel)) (fun _ h9 => h9) rfl dX5_produce_108 ?_
                refine lv_topi (fun x690161 ex690161 => ?_)
                have sx690161 : x690161 = nI j690009 := ex690161.trans (hE.pr j690009 hj690009).1
                refine lv_aload hx hb dX5_produce_111 (lv_at hl 1 rfl) ?_
                obtain ⟨j690162, hj690162⟩ := pG_3 (cy := cy) (N := N) (T := T) (I := I) (Q := Q) (J := J) (hC.kp hj690009).1 (hC.kp hj690009).2
                refine va_get (D := (dC, dI)) (ci := 3) (v := .int (I (v (4 + j690009)) 1)) (C := RX3) (T := TX3) (N := 6) hx hb hts hi3 hown hK hP j690162 hj690162 rfl 1 (by decide) (hts (.fieldLink RX5 75 "TallyLogs$Producer" "generation" "I") (by decide +kernel)) (fun _ h9 => h9) rfl dX5_produce_113 ?_
                refine lv_topi (fun x690163 ex690163 => ?_)
                have sx690163 : x690163 = σ.1 8 j690009 := ex690163.trans (hE.pr j690009 hj690009).2.1
                refine lv_iload_n hx hb dX5_produce_116 rfl (lv_at hl 6 rfl) ?_
                have hn0 : x690161 = hd - hd / 8 * 8 := sx690161.trans ej690009.symm
                have hg9 : σ.1 8 j690009 = hd / 8 := by rw [← sx690061, ← hr690062]; exact c690063
                have hn1 : x690163 = hd / 8 := sx690163.trans hg9
                obtain ⟨j690165, hj690165⟩ := pG_4 (cy := cy) (N := N) (T := T) (I := I) (Q := Q) (J := J) (hE.rL hP690003 hn690059 hl690059).1 (hE.rL hP690003 hn690059 hl690059).2
                refine vp_callSi (W.runV (As := [.int x690161, .int x690163, .int sq]) (rest := []) ⟨hx, hb, hml, hown, hts⟩ (g_X4_offsetOf l dC dI cy v L K N T I Q J pa ra (kxo σ) σ P690003 n690059 x690161 x690163 sq hE hP690003 hn690059 hl690059 hNl690059) (cwV 3 hts gX5_produce_X4_offsetOf rfl rfl rfl (by decide +kernel) ⟨Nat.le_of_ble_eq_true rfl, Nat.le_of_ble_eq_true rfl⟩) ⟨pb_blind, va_recv hK hP (ci := 4) (q0 := j690165) rfl hj690165, fun U hU hW => ⟨rfl, pb_pre hP hK hN hU hW⟩⟩ rfl rfl hl.1 rfl (lv_room (Nat.le_of_ble_eq_true rfl)) dX5_produce_117 ⟨Nat.le_of_ble_eq_true rfl, Nat.le_of_ble_eq_true rfl⟩) (fun r690164 hr690164 => ?_)
                have hrv : r690164 = oLv (fU (pSq σ (5 * P690003 + n690059) (hd - hd / 8 * 8) (hd / 8) sq) (ze σ (5 * P690003 + n690059) - zb σ (5 * P690003 + n690059)) (zb σ (5 * P690003 + n690059))) := by rw [hr690164, hn0, hn1]
                have hzb := clT (σ.2.1 (5 * P690003 + n690059) 1)
                have hze := clT (σ.2.1 (5 * P690003 + n690059) 2)
                cases hfu : fU (pSq σ (5 * P690003 + n690059) (hd - hd / 8 * 8) (hd / 8) sq) (ze σ (5 * P690003 + n690059) - zb σ (5 * P690003 + n690059)) (zb σ (5 * P690003 + n690059)) with
                | none =>
                  have hr1 : r690164 = -1 := by rw [hrv, hfu]; rfl
                  refine lv_istore (lv' := [(10, .int r690164), (9, .ref (ra (5 * P690003 + n690059))), (8, .ref (v (4 + j690009))), (7, .ref (pa P690003)), (0, .ref (v 0)), (1, .int xp), (2, .int hd), (3, .int sq), (4, .int ke), (5, .int va), (6, .int al)]) hx hb dX5_produce_120 hl (by decide) rfl (fun ls hl => ?_)
                  refine lv_iload hx hb dX5_produce_122 (lv_at hl 0 rfl) ?_
                  refine lv_iconst (v := (-1)) hx hb dX5_produce_124 (by decide) ?_
                  refine lv_icmp_eq (tgt := 131) hx hb dX5_produce_125 (by decide) (fun c690166 => ?_) (fun c690166 => ?_)
                  rotate_left
                  · exact absurd hr1 c690166
                  refine lv_iload_n hx hb dX5_produce_131 rfl (lv_at hl 7 rfl) ?_
                  refine lv_aload hx hb dX5_produce_132 (lv_at hl 1 rfl) ?_
                  refine lv_aload hx hb dX5_produce_134 (lv_at hl 2 rfl) ?_
                  obtain ⟨j690167, hj690167⟩ := pG_3 (cy := cy) (N := N) (T := T) (I := I) (Q := Q) (J := J) (hC.kp hj690009).1 (hC.kp hj690009).2
                  refine va_get (D := (dC, dI)) (ci := 3) (v := .int (I (v (4 + j690009)) 0)) (C := RX3) (T := TX3) (N := 6) hx hb hts hi3 hown hK hP j690167 hj690167 rfl 0 (by decide) (hts (.fieldLink RX5 98 "TallyLogs$Producer" "number" "I") (by decide +kernel)) (fun _ h9 => h9) rfl dX5_produce_136 ?_
                  refine lv_topi (fun x690168 ex690168 => ?_)
                  have sx690168 : x690168 = nI j690009 := ex690168.trans (hE.pr j690009 hj690009).1
                  refine lv_aload hx hb dX5_produce_139 (lv_at hl 2 rfl) ?_
                  obtain ⟨j690169, hj690169⟩ := pG_3 (cy := cy) (N := N) (T := T) (I := I) (Q := Q) (J := J) (hC.kp hj690009).1 (hC.kp hj690009).2
                  refine va_get (D := (dC, dI)) (ci := 3) (v := .int (I (v (4 + j690009)) 1)) (C := RX3) (T := TX3) (N := 6) hx hb hts hi3 hown hK hP j690169 hj690169 rfl 1 (by decide) (hts (.fieldLink RX5 75 "TallyLogs$Producer" "generation" "I") (by decide +kernel)) (fun _ h9 => h9) rfl dX5_produce_141 ?_
                  refine lv_topi (fun x690170 ex690170 => ?_)
                  have sx690170 : x690170 = σ.1 8 j690009 := ex690170.trans (hE.pr j690009 hj690009).2.1
                  obtain ⟨j690172, hj690172⟩ := pG_4 (cy := cy) (N := N) (T := T) (I := I) (Q := Q) (J := J) (hE.rL hP690003 hn690059 hl690059).1 (hE.rL hP690003 hn690059 hl690059).2
                  refine vp_callSi (W.runV (As := [.int x690168, .int x690170]) (rest := [.int sq]) ⟨hx, hb, hml, hown, hts⟩ (g_X4_nextSeq l dC dI cy v L K N T I Q J pa ra (kxo σ) σ P690003 n690059 x690168 x690170 hE hP690003 hn690059 hl690059 hNl690059) (cwV 2 hts gX5_produce_X4_nextSeq rfl rfl rfl (by decide +kernel) ⟨Nat.le_of_ble_eq_true rfl, Nat.le_of_ble_eq_true rfl⟩) ⟨pb_blind, va_recv hK hP (ci := 4) (q0 := j690172) rfl hj690172, fun U hU hW => ⟨rfl, pb_pre hP hK hN hU hW⟩⟩ rfl rfl hl.1 rfl (lv_room (Nat.le_of_ble_eq_true rfl)) dX5_produce_144 ⟨Nat.le_of_ble_eq_true rfl, Nat.le_of_ble_eq_true rfl⟩) (fun r690171 hr690171 => ?_)
                  have hrq : r690171 = oNq σ (5 * P690003 + n690059) (hd - hd / 8 * 8) (hd / 8) := by rw [hr690171, sx690168.trans ej690009.symm, sx690170.trans hg9]
                  cases hfd : fD (pDt σ (5 * P690003 + n690059) (hd - hd / 8 * 8) (hd / 8)) (zb σ (5 * P690003 + n690059)) (ze σ (5 * P690003 + n690059) - zb σ (5 * P690003 + n690059)) with
                  | none =>
                    have hr2 : r690171 = 0 := by rw [hrq]; unfold oNq; rw [hfd]
                    refine lv_icmp_eq (tgt := 153) hx hb dX5_produce_147 (by decide) (fun c690173 => ?_) (fun c690173 => ?_)
                    · have kc690173 : sq.toInt = r690171.toInt := by have h9 := c690173; rw [xk_eq] at h9; exact h9
                      refine lv_aload hx hb dX5_produce_153 (lv_at hl 1 rfl) ?_
                      obtain ⟨j690175, hj690175⟩ := pG_4 (cy := cy) (N := N) (T := T) (I := I) (Q := Q) (J := J) (hE.rL hP690003 hn690059 hl690059).1 (hE.rL hP690003 hn690059 hl690059).2
                      refine vp_callSi (W.runV (As := []) (rest := []) ⟨hx, hb, hml, hown, hts⟩ (g_X4_isFull l dC dI cy v L K N T I Q J pa ra (kxo σ) σ P690003 n690059 hE hP690003 hn690059 hl690059 hNl690059) (cwV 0 hts gX5_produce_X4_isFull rfl rfl rfl (by decide +kernel) ⟨Nat.le_of_ble_eq_true rfl, Nat.le_of_ble_eq_true rfl⟩) ⟨pb_blind, va_recv hK hP (ci := 4) (q0 := j690175) rfl hj690175, fun U hU hW => ⟨rfl, pb_pre hP hK hN hU hW⟩⟩ rfl rfl hl.1 rfl (lv_room (Nat.le_of_ble_eq_true rfl)) dX5_produce_155 ⟨Nat.le_of_ble_eq_true rfl, Nat.le_of_ble_eq_true rfl⟩) (fun r690174 hr690174 => ?_)
                      refine lv_if_eq (tgt := 164) hx hb dX5_produce_158 (by decide) (fun c690176 => ?_) (fun c690176 => ?_)
                      · have kc690176 : r690174.toInt = 0 := by have h9 := c690176; rw [xk_eq, xk_0] at h9; exact h9
                        have hlt : σ.2.1 (5 * P690003 + n690059) 2 - σ.2.1 (5 * P690003 + n690059) 1 < 60 := by by_cases z : σ.2.1 (5 * P690003 + n690059) 2 - σ.2.1 (5 * P690003 + n690059) 1 < 60; (exact z); rw [if_neg z] at hr690174; exact absurd (hr690174.symm.trans c690176) (by decide)
                        have h60 : (σ.2.1 (5 * P690003 + n690059) 2).toInt < (σ.2.1 (5 * P690003 + n690059) 1).toInt + 60 := by have z := hlt; rw [xk_lt, xsub (by omega) (by omega), show (60 : Int32).toInt = 60 by decide] at z; omega
                        have hn60 : ¬ σ.2.1 (5 * P690003 + n690059) 2 - σ.2.1 (5 * P690003 + n690059) 1 = 60 := fun z => by rw [z] at hlt; exact absurd hlt (by decide)
                        refine lv_aload hx hb dX5_produce_164 (lv_at hl 1 rfl) ?_
                        refine lv_aload hx hb dX5_produce_166 (lv_at hl 3 rfl) ?_
                        obtain ⟨j690177, hj690177⟩ := pG_2 (cy := cy) (N := N) (T := T) (I := I) (Q := Q) (J := J) (hE.pL hP690003 htP690003).1 (hE.pL hP690003 htP690003).2
                        refine va_get (D := (dC, dI)) (ci := 2) (v := .int (I (pa P690003) 4)) (C := RX2) (T := TX2) (N := 6) hx hb hts hi2 hown hK hP j690177 hj690177 rfl 4 (by decide) (hts (.fieldLink RX5 115 "TallyLogs$Partition" "epoch" "I") (by decide +kernel)) (fun _ h9 => h9) rfl dX5_produce_168 ?_
                        refine lv_topi (fun x690178 ex690178 => ?_)
                        have sx690178 : x690178 = σ.1 5 P690003 := ex690178.trans ((hE.pt P690003 hP690003).2 htP690003).2.1.2.2.2.1
                        refine lv_aload hx hb dX5_produce_171 (lv_at hl 2 rfl) ?_
                        refine lv_iload_n hx hb dX5_produce_173 rfl (lv_at hl 7 rfl) ?_
                        refine lv_iload hx hb dX5_produce_174 (lv_at hl 8 rfl) ?_
                        refine lv_iload hx hb dX5_produce_176 (lv_at hl 9 rfl) ?_
                        have hFc := pfree hD hS hA
                        refine va_callr (va_runS (As := [.int x690178, .ref (v (4 + j690009)), .int sq, .int ke, .int va]) (rest := [.ref (ra (5 * P690003 + n690059))]) ⟨hx, hb, hml, hown, hts⟩ (g_X5_newData l dC dI cy v L K N T I Q J s.heap.size pa ra (kxo σ) σ j690009 x690178 sq ke va hE hj690009) (va_cwS 5 hts gX5_produce_X5_newData rfl rfl rfl (by decide +kernel) ⟨Nat.le_of_ble_eq_true rfl, Nat.le_of_ble_eq_true rfl⟩) ⟨pw_blind, fun U hU hW => ⟨rfl, pw_pre hP hK hN hD hU hW⟩⟩ rfl rfl hl.1 rfl (lv_room (Nat.le_of_ble_eq_true rfl)) dX5_produce_178 ⟨Nat.le_of_ble_eq_true rfl, Nat.le_of_ble_eq_true rfl⟩) hS (fun q _ h => hFc q h) hFc (fun d9 rn690180 t H1 locs ht hvm hw hB hz1 hk1 hS => ?_)
                        have hE0 := hE
                        obtain ⟨L, K, T, I690179, Q690179, J690179⟩ := d9
                        obtain ⟨hC, hXe, hIQ, eJ690179⟩ := hw
                        obtain ⟨⟨⟨hLrn690180, hkrn690180⟩, hfrn690180⟩, hB⟩ := hB
                        have eJ690179 : J690179 = J := eJ690179
                        have hfrn690180 : ∀ f, f < 8 → I690179 rn690180 f = r8 x690178 0 (nI j690009) (σ.1 8 j690009) sq ke va (if σ.1 9 j690009 = 1 then 1 else 0) f := hfrn690180
                        obtain ⟨hP, hK1, hD1⟩ := hB
                        rw [ht] at hP
                        have hD := hD1.weaken (fun _ _ _ h => hFc _ h)
                        generalize H1 = H at hP hS ⊢
                        have hP : va_P (dC, dI) vwCl (va_pl L (pF cy K N T I690179 Q690179 J690179)) H := hP
                        have hD : va_D A (va_pl L (pF cy K N T I690179 Q690179 J690179)) := hD
                        have hR : RS v I690179 Q690179 J690179 I690179 Q690179 J690179 := RS.rf
                        have hC : CT v L K N T I690179 Q690179 := hC
                        have hE : REP v pa ra L K N T I690179 Q690179 J690179 (kxo σ) σ := hE0.mv hC (fun b hb => (hXe b hb).2.2.2) (fun b hb => (hIQ b hb).1) (fun b hb => (hIQ b hb).2) (fun _ _ => by rw [eJ690179])
                        refine W.widen (k := 1) (n := 8) (by omega) (by omega) ?_
                        obtain ⟨j690181, hj690181⟩ := pG_4 (cy := cy) (N := N) (T := T) (I := I690179) (Q := Q690179) (J := J690179) (hE.rL hP690003 hn690059 hl690059).1 (hE.rL hP690003 hn690059 hl690059).2
                        have hFc := pfree hD hS hA
                        refine va_callv (va_runV (As := [.ref rn690180]) (rest := []) ⟨hx, hb, hml, hown, hts⟩ (g_X4_append l dC dI cy v L K N T I690179 Q690179 J690179 H.size pa ra (kxo σ) σ P690003 n690059 rn690180 (r8 (σ.1 5 P690003) 0 (nI j690009) (σ.1 8 j690009) sq ke va (if σ.1 9 j690009 = 1 then 1 else 0)) hE hP690003 hn690059 hl690059 hNl690059 hLrn690180 hkrn690180 h60 (fun f hf9 => by rw [hfrn690180 f hf9, sx690178])) (cwV 1 hts gX5_produce_X4_append rfl rfl rfl (by decide +kernel) ⟨Nat.le_of_ble_eq_true rfl, Nat.le_of_ble_eq_true rfl⟩) ⟨pw_blind, va_recv hK hP (ci := 4) (q0 := j690181) rfl hj690181, fun U hU hW => ⟨rfl, pw_pre hP hK hN hD hU hW⟩⟩ rfl rfl hl.1 rfl (lv_room (Nat.le_of_ble_eq_true rfl)) dX5_produce_181 ⟨Nat.le_of_ble_eq_true rfl, Nat.le_of_ble_eq_true rfl⟩) hS (fun q _ h => hFc q h) hFc (fun d9 t H1 locs ht hvm hw hB hz1 hk1 hS => ?_)
                        obtain ⟨I690182, Q690182, J690182⟩ := d9
                        obtain ⟨hP, hK1, hD1⟩ := hB
                        rw [ht] at hP
                        have hD := hD1.weaken (fun _ _ _ h => hFc _ h)
                        generalize H1 = H at hP hS ⊢
                        have hP : va_P (dC, dI) vwCl (va_pl L (pF cy K N T I690182 Q690182 J690182)) H := hP
                        have hD : va_D A (va_pl L (pF cy K N T I690182 Q690182 J690182)) := hD
                        have hR : RS v I690182 Q690182 J690182 I690182 Q690182 J690182 := RS.rf
                        obtain ⟨sg690184, esg690184⟩ : ∃ z, z = oAd σ (5 * P690003 + n690059) (r8 (σ.1 5 P690003) 0 (nI j690009) (σ.1 8 j690009) sq ke va (if σ.1 9 j690009 = 1 then 1 else 0)) := ⟨_, rfl⟩
                        have hE : REP v pa ra L K N T I690182 Q690182 J690182 (kxo σ) sg690184 := by rw [esg690184]; exact hw
                        have hC := hE.ct
                        have h1sg690184 : sg690184.1 = σ.1 := by rw [esg690184]; exact rfl
                        have hl690059 : lvj sg690184 P690003 n690059 := by unfold lvj; rw [h1sg690184]; exact hl690059
                        have htP690003 : ¬ sg690184.1 2 P690003 = 0 := by rw [h1sg690184]; exact htP690003
                        refine lv_aload hx hb dX5_produce_184 (lv_at hl 2 rfl) ?_
                        refine lv_ifnull hx hb dX5_produce_186 ?_
                        refine lv_aload hx hb dX5_produce_189 (lv_at hl 2 rfl) ?_
                        obtain ⟨j690185, hj690185⟩ := pG_3 (cy := cy) (N := N) (T := T) (I := I690182) (Q := Q690182) (J := J690182) (hC.kp hj690009).1 (hC.kp hj690009).2
                        refine va_get (D := (dC, dI)) (ci := 3) (v := .int (I690182 (v (4 + j690009)) 2)) (C := RX3) (T := TX3) (N := 6) hx hb hts hi3 hown hK hP j690185 hj690185 rfl 2 (by decide) (hts (.fieldLink RX5 78 "TallyLogs$Producer" "mode" "I") (by decide +kernel)) (fun _ h9 => h9) rfl dX5_produce_191 ?_
                        refine lv_topi (fun x690186 ex690186 => ?_)
                        have sx690186 : x690186 = sg690184.1 9 j690009 := ex690186.trans (hE.pr j690009 hj690009).2.2.1
                        have hmd : x690186 = σ.1 9 j690009 := by rw [sx690186, esg690184, oAd_1]
                        refine lv_iconst (v := 1) hx hb dX5_produce_194 (by decide) ?_
                        refine lv_icmp_ne (tgt := 211) hx hb dX5_produce_195 (by decide) (fun c690187 => ?_) (fun c690187 => ?_)
                        · have kc690187 : ¬ (x690186.toInt = 1) := by have h9 := c690187; rw [xk_eq, xk_1] at h9; exact h9
                          have hRH8 : RHp (kxo σ) sg690184 P690003 := by rw [esg690184]; exact hSK.adh hP690003 hn690059 htO690003 (fun m hm => hLA (5 * P690003 + m) (by omega)) hE9 h60 rfl
                          have hRH9 := hRH8
                          refine lv_aload hx hb dX5_produce_211 (lv_at hl 3 rfl) ?_
                          obtain ⟨j690188, hj690188⟩ := pG_2 (cy := cy) (N := N) (T := T) (I := I690182) (Q := Q690182) (J := J690182) (hE.pL hP690003 htP690003).1 (hE.pL hP690003 htP690003).2
                          have hFc := pfree hD hS hA
                          refine va_callv (va_runV (As := []) (rest := []) ⟨hx, hb, hml, hown, hts⟩ (g_X2_raiseHw l dC dI cy v L K N T I690182 Q690182 J690182 H.size pa ra (kxo σ) sg690184 P690003 hE hP690003 htP690003 hRH9.1 hRH9.2.1 hRH9.2.2.1 hRH9.2.2.2) (cwV 0 hts gX5_produce_X2_raiseHw rfl rfl rfl (by decide +kernel) ⟨Nat.le_of_ble_eq_true rfl, Nat.le_of_ble_eq_true rfl⟩) ⟨pw_blind, va_recv hK hP (ci := 2) (q0 := j690188) rfl hj690188, fun U hU hW => ⟨rfl, pw_pre hP hK hN hD hU hW⟩⟩ rfl rfl hl.1 rfl (lv_room (Nat.le_of_ble_eq_true rfl)) dX5_produce_213 ⟨Nat.le_of_ble_eq_true rfl, Nat.le_of_ble_eq_true rfl⟩) hS (fun q _ h => hFc q h) hFc (fun d9 t H1 locs ht hvm hw hB hz1 hk1 hS => ?_)
                          obtain ⟨I690189, Q690189, J690189⟩ := d9
                          obtain ⟨hP, hK1, hD1⟩ := hB
                          rw [ht] at hP
                          have hD := hD1.weaken (fun _ _ _ h => hFc _ h)
                          generalize H1 = H at hP hS ⊢
                          have hP : va_P (dC, dI) vwCl (va_pl L (pF cy K N T I690189 Q690189 J690189)) H := hP
                          have hD : va_D A (va_pl L (pF cy K N T I690189 Q690189 J690189)) := hD
                          have hR : RS v I690189 Q690189 J690189 I690189 Q690189 J690189 := RS.rf
                          obtain ⟨sg690191, esg690191⟩ : ∃ z, z = oRi sg690184 P690003 := ⟨_, rfl⟩
                          have hE : REP v pa ra L K N T I690189 Q690189 J690189 (kxo σ) sg690191 := by rw [esg690191]; exact hw
                          have hC := hE.ct
                          have h1sg690191 : sg690191.1 = sg690184.1 := by rw [esg690191]; exact oRi_1 _ _
                          have hl690059 : lvj sg690191 P690003 n690059 := by unfold lvj; rw [h1sg690191]; exact hl690059
                          have htP690003 : ¬ sg690191.1 2 P690003 = 0 := by rw [h1sg690191]; exact htP690003
                          refine lv_aload hx hb dX5_produce_216 (lv_at hl 1 rfl) ?_
                          obtain ⟨j690192, hj690192⟩ := pG_4 (cy := cy) (N := N) (T := T) (I := I690189) (Q := Q690189) (J := J690189) (hE.rL hP690003 hn690059 hl690059).1 (hE.rL hP690003 hn690059 hl690059).2
                          refine va_get (D := (dC, dI)) (ci := 4) (v := .int (I690189 (ra (5 * P690003 + n690059)) 2)) (C := RX4) (T := TX4) (N := 7) hx hb hts hi4 hown hK hP j690192 hj690192 rfl 2 (by decide) (hts (.fieldLink RX5 132 "TallyLogs$Replica" "end" "I") (by decide +kernel)) (fun _ h9 => h9) rfl dX5_produce_218 ?_
                          refine lv_topi (fun x690193 ex690193 => ?_)
                          have sx690193 : x690193 = sg690191.2.1 (5 * P690003 + n690059) 2 := ex690193.trans (hE.g hP690003 hn690059 hl690059 (by decide) (by decide) (by decide))
                          have ux690193 := sx690193
                          have tx690193 : x690193.toInt = (sg690191.2.1 (5 * P690003 + n690059) 2).toInt := congrArg Int32.toInt sx690193
                          refine lv_iconst (v := 1) hx hb dX5_produce_221 (by decide) ?_
                          refine lv_isub hx hb dX5_produce_222 ?_
                          refine lv_topi (fun v690194 ev690194 => ?_)
                          refine W.widen (k := 1) (n := 8) (by omega) (by omega) ?_
                          have e9 : qPr σ xp hd sq ke va al = (sg690191, v690194) := by unfold qPr; rw [if_neg hit690003, if_neg hh9, cP690003, ho690059]; refine (if_neg hhd).trans ?_; rw [cj690009]; refine (if_neg (fun z => z.elim (fun y => y (by rw [← sx690061, ← hr690062]; exact c690063)) (fun y => c690066 (by rw [sx690065]; exact y)))).trans ?_; refine (if_neg (fun z => z.2 (by rw [← sx690158, ← sx690155, ← hr690156]; exact c690159))).trans ?_; rw [hfu]; show (match fD _ _ _ with | none => _ | some q => _ : SG × Int32) = _; rw [hfd]; refine (if_pos (by rw [← hr2]; exact c690173)).trans ?_; refine (if_neg hn60).trans ?_; have hvv : σ.2.1 (5 * P690003 + n690059) 2 = v690194 := (by rw [ev690194, ux690193, esg690191, oRi_g (by decide), esg690184, oAd_e, Int32.add_sub_cancel]); rw [ej690009, ← hg9, oPr_c hj690009 (fun z => c690187 (by rw [hmd]; exact z)), esg690191, esg690184, if_neg (fun z => c690187 (by rw [hmd]; exact z)), ← hvv]
                          have hk9 : kxo sg690191 = (kxo σ) := kxo_c (by rw [esg690191, oRi_1, esg690184, oAd_1]) (fun q => by rw [esg690191, oRi_1, esg690184, oAd_1])
                          exact W.iret (v := v690194) hx hb hr (fun t ht hW => ⟨⟨v690194, (L, K, T, I690189, Q690189, J690189), rfl, ⟨by show REP v pa ra L K N T I690189 Q690189 J690189 (kxo (qPr σ xp hd sq ke va al).1) (qPr σ xp hd sq ke va al).1; rw [e9]; show REP v pa ra L K N T I690189 Q690189 J690189 (kxo sg690191) sg690191; rw [hk9]; exact hE, by show _ = _; rw [e9]⟩, by rw [ht]; exact hP, va_K.moved hW.alike hK, hD⟩, hS.F ht⟩) hS.2.2 dX5_produce_223
                        · have kc690187 : x690186.toInt = 1 := by have h9 := c690187; rw [xk_eq, xk_1] at h9; exact h9
                          refine lv_aload hx hb dX5_produce_198 (lv_at hl 2 rfl) ?_
                          refine lv_dup hx hb dX5_produce_200 rfl ?_
                          obtain ⟨j690195, hj690195⟩ := pG_3 (cy := cy) (N := N) (T := T) (I := I690182) (Q := Q690182) (J := J690182) (hC.kp hj690009).1 (hC.kp hj690009).2
                          refine va_get (D := (dC, dI)) (ci := 3) (v := .int (I690182 (v (4 + j690009)) 5)) (C := RX3) (T := TX3) (N := 6) hx hb hts hi3 hown hK hP j690195 hj690195 rfl 5 (by decide) (hts (.fieldLink RX5 126 "TallyLogs$Producer" "left" "I") (by decide +kernel)) (fun _ h9 => h9) rfl dX5_produce_201 ?_
                          refine lv_topi (fun x690196 ex690196 => ?_)
                          have sx690196 : x690196 = sg690184.1 10 j690009 := ex690196.trans (hE.pr j690009 hj690009).2.2.2.1
                          refine lv_iconst (v := 1) hx hb dX5_produce_204 (by decide) ?_
                          refine lv_iload_n hx hb dX5_produce_205 rfl (lv_at hl 5 rfl) ?_
                          refine lv_ishl hx hb dX5_produce_206 ?_
                          refine lv_topi (fun v690197 ev690197 => ?_)
                          refine lv_ior hx hb dX5_produce_207 ?_
                          refine lv_topi (fun v690198 ev690198 => ?_)
                          obtain ⟨j690199, hj690199⟩ := pG_3 (cy := cy) (N := N) (T := T) (I := I690182) (Q := Q690182) (J := J690182) (hC.kp hj690009).1 (hC.kp hj690009).2
                          have hDo := hD
                          refine va_put (D := (dC, dI)) (ci := 3) (v := .int v690198) (ty := .int) (C := RX3) (T := TX3) (N := 6) hx hb hts hi3 tyX3 tyX3_ok nmX3 hown hK hP hD hS j690199 hj690199 rfl 5 (by decide) (hts (.fieldLink RX5 126 "TallyLogs$Producer" "left" "I") (by decide +kernel)) (fun _ h9 => h9) rfl (by decide +kernel) rfl rfl (Nat.le_of_ble_eq_true rfl) dX5_produce_208 (fun H locs hP hD hS => ?_)
                          have hP := Eq.mp (congrArg (fun w => va_P (dC, dI) vwCl w H) (pP_3_5 (x := v690198) hDo (hC.kp hj690009).1 (hC.kp hj690009).2 hj690199)) hP
                          obtain ⟨I690200, eI690200⟩ : ∃ z, z = p2 I690182 (v (4 + j690009)) 5 v690198 := ⟨_, rfl⟩
                          rw [← eI690200] at hP
                          have hR : RS v I690200 Q690182 J690182 I690200 Q690182 J690182 := RS.rf
                          obtain ⟨sg690201, esg690201⟩ : ∃ z, z = sA sg690184 10 j690009 v690198 := ⟨_, rfl⟩
                          have hE : REP v pa ra L K N T I690200 Q690182 J690182 (kxo σ) sg690201 := by rw [esg690201, eI690200]; exact hE.wleft hj690009
                          have hl690059 : lvj sg690201 P690003 n690059 := by rw [esg690201]; exact lvj_sA hl690059 (by decide) (by decide)
                          have htP690003 : ¬ sg690201.1 2 P690003 = 0 := by rw [esg690201, sA_n (by decide)]; exact htP690003
                          have hC : CT v L K N T I690200 Q690182 := by rw [eI690200]; exact hC.pi (by rw [(hC.kp hj690009).2]; decide)
                          have hD : va_D A (va_pl L (pF cy K N T I690200 Q690182 J690182)) := pD hDo
                          have hRH8 : RHp (kxo σ) sg690184 P690003 := by rw [esg690184]; exact hSK.adh hP690003 hn690059 htO690003 (fun m hm => hLA (5 * P690003 + m) (by omega)) hE9 h60 rfl
                          have hRH9 : RHp (kxo σ) sg690201 P690003 := by rw [esg690201]; exact hRH8.s10
                          refine lv_aload hx hb dX5_produce_211 (lv_at hl 3 rfl) ?_
                          obtain ⟨j690202, hj690202⟩ := pG_2 (cy := cy) (N := N) (T := T) (I := I690200) (Q := Q690182) (J := J690182) (hE.pL hP690003 htP690003).1 (hE.pL hP690003 htP690003).2
                          have hFc := pfree hD hS hA
                          refine va_callv (va_runV (As := []) (rest := []) ⟨hx, hb, hml, hown, hts⟩ (g_X2_raiseHw l dC dI cy v L K N T I690200 Q690182 J690182 H.size pa ra (kxo σ) sg690201 P690003 hE hP690003 htP690003 hRH9.1 hRH9.2.1 hRH9.2.2.1 hRH9.2.2.2) (cwV 0 hts gX5_produce_X2_raiseHw rfl rfl rfl (by decide +kernel) ⟨Nat.le_of_ble_eq_true rfl, Nat.le_of_ble_eq_true rfl⟩) ⟨pw_blind, va_recv hK hP (ci := 2) (q0 := j690202) rfl hj690202, fun U hU hW => ⟨rfl, pw_pre hP hK hN hD hU hW⟩⟩ rfl rfl hl.1 rfl (lv_room (Nat.le_of_ble_eq_true rfl)) dX5_produce_213 ⟨Nat.le_of_ble_eq_true rfl, Nat.le_of_ble_eq_true rfl⟩) hS (fun q _ h => hFc q h) hFc (fun d9 t H1 locs ht hvm hw hB hz1 hk1 hS => ?_)
                          obtain ⟨I690203, Q690203, J690203⟩ := d9
                          obtain ⟨hP, hK1, hD1⟩ := hB
                          rw [ht] at hP
                          have hD := hD1.weaken (fun _ _ _ h => hFc _ h)
                          generalize H1 = H at hP hS ⊢
                          have hP : va_P (dC, dI) vwCl (va_pl L (pF cy K N T I690203 Q690203 J690203)) H := hP
                          have hD : va_D A (va_pl L (pF cy K N T I690203 Q690203 J690203)) := hD
                          have hR : RS v I690203 Q690203 J690203 I690203 Q690203 J690203 := RS.rf
                          obtain ⟨sg690205, esg690205⟩ : ∃ z, z = oRi sg690201 P690003 := ⟨_, rfl⟩
                          have hE : REP v pa ra L K N T I690203 Q690203 J690203 (kxo σ) sg690205 := by rw [esg690205]; exact hw
                          have hC := hE.ct
                          have h1sg690205 : sg690205.1 = sg690201.1 := by rw [esg690205]; exact oRi_1 _ _
                          have hl690059 : lvj sg690205 P690003 n690059 := by unfold lvj; rw [h1sg690205]; exact hl690059
                          have htP690003 : ¬ sg690205.1 2 P690003 = 0 := by rw [h1sg690205]; exact htP690003
                          refine lv_aload hx hb dX5_produce_216 (lv_at hl 1 rfl) ?_
                          obtain ⟨j690206, hj690206⟩ := pG_4 (cy := cy) (N := N) (T := T) (I := I690203) (Q := Q690203) (J := J690203) (hE.rL hP690003 hn690059 hl690059).1 (hE.rL hP690003 hn690059 hl690059).2
                          refine va_get (D := (dC, dI)) (ci := 4) (v := .int (I690203 (ra (5 * P690003 + n690059)) 2)) (C := RX4) (T := TX4) (N := 7) hx hb hts hi4 hown hK hP j690206 hj690206 rfl 2 (by decide) (hts (.fieldLink RX5 132 "TallyLogs$Replica" "end" "I") (by decide +kernel)) (fun _ h9 => h9) rfl dX5_produce_218 ?_
                          refine lv_topi (fun x690207 ex690207 => ?_)
                          have sx690207 : x690207 = sg690205.2.1 (5 * P690003 + n690059) 2 := ex690207.trans (hE.g hP690003 hn690059 hl690059 (by decide) (by decide) (by decide))
                          have ux690207 := sx690207
                          have tx690207 : x690207.toInt = (sg690205.2.1 (5 * P690003 + n690059) 2).toInt := congrArg Int32.toInt sx690207
                          refine lv_iconst (v := 1) hx hb dX5_produce_221 (by decide) ?_
                          refine lv_isub hx hb dX5_produce_222 ?_
                          refine lv_topi (fun v690208 ev690208 => ?_)
                          refine W.widen (k := 1) (n := 8) (by omega) (by omega) ?_
                          have e9 : qPr σ xp hd sq ke va al = (sg690205, v690208) := by unfold qPr; rw [if_neg hit690003, if_neg hh9, cP690003, ho690059]; refine (if_neg hhd).trans ?_; rw [cj690009]; refine (if_neg (fun z => z.elim (fun y => y (by rw [← sx690061, ← hr690062]; exact c690063)) (fun y => c690066 (by rw [sx690065]; exact y)))).trans ?_; refine (if_neg (fun z => z.2 (by rw [← sx690158, ← sx690155, ← hr690156]; exact c690159))).trans ?_; rw [hfu]; show (match fD _ _ _ with | none => _ | some q => _ : SG × Int32) = _; rw [hfd]; refine (if_pos (by rw [← hr2]; exact c690173)).trans ?_; refine (if_neg hn60).trans ?_; have hvv : σ.2.1 (5 * P690003 + n690059) 2 = v690208 := (by rw [ev690208, ux690207, esg690205, oRi_g (by decide), esg690201, sA_2, esg690184, oAd_e, Int32.add_sub_cancel]); have hl9 : x690196 = σ.1 10 j690009 := (by rw [sx690196, esg690184, oAd_1]); rw [ej690009, ← hg9, oPr_o hj690009 (by rw [← hmd]; exact c690187), esg690205, esg690201, ev690198, hl9, ev690197, eP690003, esg690184, if_pos (by rw [← hmd]; exact c690187), ← hvv]
                          have hk9 : kxo sg690205 = (kxo σ) := kxo_c (by rw [esg690205, oRi_1, esg690201, sA_q (by omega), esg690184, oAd_1]) (fun q => by rw [esg690205, oRi_1, esg690201, sA_q (by omega), esg690184, oAd_1])
                          exact W.iret (v := v690208) hx hb hr (fun t ht hW => ⟨⟨v690208, (L, K, T, I690203, Q690203, J690203), rfl, ⟨by show REP v pa ra L K N T I690203 Q690203 J690203 (kxo (qPr σ xp hd sq ke va al).1) (qPr σ xp hd sq ke va al).1; rw [e9]; show REP v pa ra L K N T I690203 Q690203 J690203 (kxo sg690205) sg690205; rw [hk9]; exact hE, by show _ = _; rw [e9]⟩, by rw [ht]; exact hP, va_K.moved hW.alike hK, hD⟩, hS.F ht⟩) hS.2.2 dX5_produce_223
                      · have kc690176 : ¬ (r690174.toInt = 0) := by have h9 := c690176; rw [xk_eq, xk_0] at h9; exact h9
                        refine lv_bipush (v := (-3)) hx hb dX5_produce_161 (by decide) ?_
                        refine W.widen (k := 1) (n := 8) (by omega) (by omega) ?_
                        have e9 : qPr σ xp hd sq ke va al = (σ, (-3)) := by unfold qPr; rw [if_neg hit690003, if_neg hh9, cP690003, ho690059]; refine (if_neg hhd).trans ?_; rw [cj690009]; refine (if_neg (fun z => z.elim (fun y => y (by rw [← sx690061, ← hr690062]; exact c690063)) (fun y => c690066 (by rw [sx690065]; exact y)))).trans ?_; refine (if_neg (fun z => z.2 (by rw [← sx690158, ← sx690155, ← hr690156]; exact c690159))).trans ?_; rw [hfu]; show (match fD _ _ _ with | none => _ | some q => _ : SG × Int32) = _; rw [hfd]; refine (if_pos (by rw [← hr2]; exact c690173)).trans ?_; exact if_pos (by have z : ¬ σ.2.1 (5 * P690003 + n690059) 2 - σ.2.1 (5 * P690003 + n690059) 1 < 60 := (fun z => by rw [if_pos z] at hr690174; exact c690176 hr690174); rw [xk_lt, xsub (by omega) (by omega), show (60 : Int32).toInt = 60 by decide] at z; rw [xk_eq, xsub (by omega) (by omega), show (60 : Int32).toInt = 60 by decide]; omega)
                        have hk9 : kxo σ = (kxo σ) := rfl
                        exact W.iret (v := (-3)) hx hb hr (fun t ht hW => ⟨⟨(-3), (L, K, T, I, Q, J), rfl, ⟨by show REP v pa ra L K N T I Q J (kxo (qPr σ xp hd sq ke va al).1) (qPr σ xp hd sq ke va al).1; rw [e9]; show REP v pa ra L K N T I Q J (kxo σ) σ; rw [hk9]; exact hE, by show _ = _; rw [e9]⟩, by rw [ht]; exact hP, va_K.moved hW.alike hK, hD⟩, hS.F ht⟩) hS.2.2 dX5_produce_163
                    · have kc690173 : ¬ (sq.toInt = r690171.toInt) := by have h9 := c690173; rw [xk_eq] at h9; exact h9
                      refine lv_bipush (v := (-6)) hx hb dX5_produce_150 (by decide) ?_
                      refine W.widen (k := 1) (n := 8) (by omega) (by omega) ?_
                      have e9 : qPr σ xp hd sq ke va al = (σ, (-6)) := by unfold qPr; rw [if_neg hit690003, if_neg hh9, cP690003, ho690059]; refine (if_neg hhd).trans ?_; rw [cj690009]; refine (if_neg (fun z => z.elim (fun y => y (by rw [← sx690061, ← hr690062]; exact c690063)) (fun y => c690066 (by rw [sx690065]; exact y)))).trans ?_; refine (if_neg (fun z => z.2 (by rw [← sx690158, ← sx690155, ← hr690156]; exact c690159))).trans ?_; rw [hfu]; show (match fD _ _ _ with | none => _ | some q => _ : SG × Int32) = _; rw [hfd]; exact if_neg (fun z => c690173 (by rw [hr2]; exact z))
                      have hk9 : kxo σ = (kxo σ) := rfl
                      exact W.iret (v := (-6)) hx hb hr (fun t ht hW => ⟨⟨(-6), (L, K, T, I, Q, J), rfl, ⟨by show REP v pa ra L K N T I Q J (kxo (qPr σ xp hd sq ke va al).1) (qPr σ xp hd sq ke va al).1; rw [e9]; show REP v pa ra L K N T I Q J (kxo σ) σ; rw [hk9]; exact hE, by show _ = _; rw [e9]⟩, by rw [ht]; exact hP, va_K.moved hW.alike hK, hD⟩, hS.F ht⟩) hS.2.2 dX5_produce_152
                  | some q8 =>
                    have hr2 : r690171 = σ.2.2 (5 * P690003 + n690059) q8 4 + 1 := by rw [hrq]; unfold oNq; rw [hfd]
                    refine lv_icmp_eq (tgt := 153) hx hb dX5_produce_147 (by decide) (fun c690209 => ?_) (fun c690209 => ?_)
                    · have kc690209 : sq.toInt = r690171.toInt := by have h9 := c690209; rw [xk_eq] at h9; exact h9
                      refine lv_aload hx hb dX5_produce_153 (lv_at hl 1 rfl) ?_
                      obtain ⟨j690211, hj690211⟩ := pG_4 (cy := cy) (N := N) (T := T) (I := I) (Q := Q) (J := J) (hE.rL hP690003 hn690059 hl690059).1 (hE.rL hP690003 hn690059 hl690059).2
                      refine vp_callSi (W.runV (As := []) (rest := []) ⟨hx, hb, hml, hown, hts⟩ (g_X4_isFull l dC dI cy v L K N T I Q J pa ra (kxo σ) σ P690003 n690059 hE hP690003 hn690059 hl690059 hNl690059) (cwV 0 hts gX5_produce_X4_isFull rfl rfl rfl (by decide +kernel) ⟨Nat.le_of_ble_eq_true rfl, Nat.le_of_ble_eq_true rfl⟩) ⟨pb_blind, va_recv hK hP (ci := 4) (q0 := j690211) rfl hj690211, fun U hU hW => ⟨rfl, pb_pre hP hK hN hU hW⟩⟩ rfl rfl hl.1 rfl (lv_room (Nat.le_of_ble_eq_true rfl)) dX5_produce_155 ⟨Nat.le_of_ble_eq_true rfl, Nat.le_of_ble_eq_true rfl⟩) (fun r690210 hr690210 => ?_)
                      refine lv_if_eq (tgt := 164) hx hb dX5_produce_158 (by decide) (fun c690212 => ?_) (fun c690212 => ?_)
                      · have kc690212 : r690210.toInt = 0 := by have h9 := c690212; rw [xk_eq, xk_0] at h9; exact h9
                        have hlt : σ.2.1 (5 * P690003 + n690059) 2 - σ.2.1 (5 * P690003 + n690059) 1 < 60 := by by_cases z : σ.2.1 (5 * P690003 + n690059) 2 - σ.2.1 (5 * P690003 + n690059) 1 < 60; (exact z); rw [if_neg z] at hr690210; exact absurd (hr690210.symm.trans c690212) (by decide)
                        have h60 : (σ.2.1 (5 * P690003 + n690059) 2).toInt < (σ.2.1 (5 * P690003 + n690059) 1).toInt + 60 := by have z := hlt; rw [xk_lt, xsub (by omega) (by omega), show (60 : Int32).toInt = 60 by decide] at z; omega
                        have hn60 : ¬ σ.2.1 (5 * P690003 + n690059) 2 - σ.2.1 (5 * P690003 + n690059) 1 = 60 := fun z => by rw [z] at hlt; exact absurd hlt (by decide)
                        refine lv_aload hx hb dX5_produce_164 (lv_at hl 1 rfl) ?_
                        refine lv_aload hx hb dX5_produce_166 (lv_at hl 3 rfl) ?_
                        obtain ⟨j690213, hj690213⟩ := pG_2 (cy := cy) (N := N) (T := T) (I := I) (Q := Q) (J := J) (hE.pL hP690003 htP690003).1 (hE.pL hP690003 htP690003).2
                        refine va_get (D := (dC, dI)) (ci := 2) (v := .int (I (pa P690003) 4)) (C := RX2) (T := TX2) (N := 6) hx hb hts hi2 hown hK hP j690213 hj690213 rfl 4 (by decide) (hts (.fieldLink RX5 115 "TallyLogs$Partition" "epoch" "I") (by decide +kernel)) (fun _ h9 => h9) rfl dX5_produce_168 ?_
                        refine lv_topi (fun x690214 ex690214 => ?_)
                        have sx690214 : x690214 = σ.1 5 P690003 := ex690214.trans ((hE.pt P690003 hP690003).2 htP690003).2.1.2.2.2.1
                        refine lv_aload hx hb dX5_produce_171 (lv_at hl 2 rfl) ?_
                        refine lv_iload_n hx hb dX5_produce_173 rfl (lv_at hl 7 rfl) ?_
                        refine lv_iload hx hb dX5_produce_174 (lv_at hl 8 rfl) ?_
                        refine lv_iload hx hb dX5_produce_176 (lv_at hl 9 rfl) ?_
                        have hFc := pfree hD hS hA
                        refine va_callr (va_runS (As := [.int x690214, .ref (v (4 + j690009)), .int sq, .int ke, .int va]) (rest := [.ref (ra (5 * P690003 + n690059))]) ⟨hx, hb, hml, hown, hts⟩ (g_X5_newData l dC dI cy v L K N T I Q J s.heap.size pa ra (kxo σ) σ j690009 x690214 sq ke va hE hj690009) (va_cwS 5 hts gX5_produce_X5_newData rfl rfl rfl (by decide +kernel) ⟨Nat.le_of_ble_eq_true rfl, Nat.le_of_ble_eq_true rfl⟩) ⟨pw_blind, fun U hU hW => ⟨rfl, pw_pre hP hK hN hD hU hW⟩⟩ rfl rfl hl.1 rfl (lv_room (Nat.le_of_ble_eq_true rfl)) dX5_produce_178 ⟨Nat.le_of_ble_eq_true rfl, Nat.le_of_ble_eq_true rfl⟩) hS (fun q _ h => hFc q h) hFc (fun d9 rn690216 t H1 locs ht hvm hw hB hz1 hk1 hS => ?_)
                        have hE0 := hE
                        obtain ⟨L, K, T, I690215, Q690215, J690215⟩ := d9
                        obtain ⟨hC, hXe, hIQ, eJ690215⟩ := hw
                        obtain ⟨⟨⟨hLrn690216, hkrn690216⟩, hfrn690216⟩, hB⟩ := hB
                        have eJ690215 : J690215 = J := eJ690215
                        have hfrn690216 : ∀ f, f < 8 → I690215 rn690216 f = r8 x690214 0 (nI j690009) (σ.1 8 j690009) sq ke va (if σ.1 9 j690009 = 1 then 1 else 0) f := hfrn690216
                        obtain ⟨hP, hK1, hD1⟩ := hB
                        rw [ht] at hP
                        have hD := hD1.weaken (fun _ _ _ h => hFc _ h)
                        generalize H1 = H at hP hS ⊢
                        have hP : va_P (dC, dI) vwCl (va_pl L (pF cy K N T I690215 Q690215 J690215)) H := hP
                        have hD : va_D A (va_pl L (pF cy K N T I690215 Q690215 J690215)) := hD
                        have hR : RS v I690215 Q690215 J690215 I690215 Q690215 J690215 := RS.rf
                        have hC : CT v L K N T I690215 Q690215 := hC
                        have hE : REP v pa ra L K N T I690215 Q690215 J690215 (kxo σ) σ := hE0.mv hC (fun b hb => (hXe b hb).2.2.2) (fun b hb => (hIQ b hb).1) (fun b hb => (hIQ b hb).2) (fun _ _ => by rw [eJ690215])
                        refine W.widen (k := 1) (n := 8) (by omega) (by omega) ?_
                        obtain ⟨j690217, hj690217⟩ := pG_4 (cy := cy) (N := N) (T := T) (I := I690215) (Q := Q690215) (J := J690215) (hE.rL hP690003 hn690059 hl690059).1 (hE.rL hP690003 hn690059 hl690059).2
                        have hFc := pfree hD hS hA
                        refine va_callv (va_runV (As := [.ref rn690216]) (rest := []) ⟨hx, hb, hml, hown, hts⟩ (g_X4_append l dC dI cy v L K N T I690215 Q690215 J690215 H.size pa ra (kxo σ) σ P690003 n690059 rn690216 (r8 (σ.1 5 P690003) 0 (nI j690009) (σ.1 8 j690009) sq ke va (if σ.1 9 j690009 = 1 then 1 else 0)) hE hP690003 hn690059 hl690059 hNl690059 hLrn690216 hkrn690216 h60 (fun f hf9 => by rw [hfrn690216 f hf9, sx690214])) (cwV 1 hts gX5_produce_X4_append rfl rfl rfl (by decide +kernel) ⟨Nat.le_of_ble_eq_true rfl, Nat.le_of_ble_eq_true rfl⟩) ⟨pw_blind, va_recv hK hP (ci := 4) (q0 := j690217) rfl hj690217, fun U hU hW => ⟨rfl, pw_pre hP hK hN hD hU hW⟩⟩ rfl rfl hl.1 rfl (lv_room (Nat.le_of_ble_eq_true rfl)) dX5_produce_181 ⟨Nat.le_of_ble_eq_true rfl, Nat.le_of_ble_eq_true rfl⟩) hS (fun q _ h => hFc q h) hFc (fun d9 t H1 locs ht hvm hw hB hz1 hk1 hS => ?_)
                        obtain ⟨I690218, Q690218, J690218⟩ := d9
                        obtain ⟨hP, hK1, hD1⟩ := hB
                        rw [ht] at hP
                        have hD := hD1.weaken (fun _ _ _ h => hFc _ h)
                        generalize H1 = H at hP hS ⊢
                        have hP : va_P (dC, dI) vwCl (va_pl L (pF cy K N T I690218 Q690218 J690218)) H := hP
                        have hD : va_D A (va_pl L (pF cy K N T I690218 Q690218 J690218)) := hD
                        have hR : RS v I690218 Q690218 J690218 I690218 Q690218 J690218 := RS.rf
                        obtain ⟨sg690220, esg690220⟩ : ∃ z, z = oAd σ (5 * P690003 + n690059) (r8 (σ.1 5 P690003) 0 (nI j690009) (σ.1 8 j690009) sq ke va (if σ.1 9 j690009 = 1 then 1 else 0)) := ⟨_, rfl⟩
                        have hE : REP v pa ra L K N T I690218 Q690218 J690218 (kxo σ) sg690220 := by rw [esg690220]; exact hw
                        have hC := hE.ct
                        have h1sg690220 : sg690220.1 = σ.1 := by rw [esg690220]; exact rfl
                        have hl690059 : lvj sg690220 P690003 n690059 := by unfold lvj; rw [h1sg690220]; exact hl690059
                        have htP690003 : ¬ sg690220.1 2 P690003 = 0 := by rw [h1sg690220]; exact htP690003
                        refine lv_aload hx hb dX5_produce_184 (lv_at hl 2 rfl) ?_
                        refine lv_ifnull hx hb dX5_produce_186 ?_
                        refine lv_aload hx hb dX5_produce_189 (lv_at hl 2 rfl) ?_
                        obtain ⟨j690221, hj690221⟩ := pG_3 (cy := cy) (N := N) (T := T) (I := I690218) (Q := Q690218) (J := J690218) (hC.kp hj690009).1 (hC.kp hj690009).2
                        refine va_get (D := (dC, dI)) (ci := 3) (v := .int (I690218 (v (4 + j690009)) 2)) (C := RX3) (T := TX3) (N := 6) hx hb hts hi3 hown hK hP j690221 hj690221 rfl 2 (by decide) (hts (.fieldLink RX5 78 "TallyLogs$Producer" "mode" "I") (by decide +kernel)) (fun _ h9 => h9) rfl dX5_produce_191 ?_
                        refine lv_topi (fun x690222 ex690222 => ?_)
                        have sx690222 : x690222 = sg690220.1 9 j690009 := ex690222.trans (hE.pr j690009 hj690009).2.2.1
                        have hmd : x690222 = σ.1 9 j690009 := by rw [sx690222, esg690220, oAd_1]
                        refine lv_iconst (v := 1) hx hb dX5_produce_194 (by decide) ?_
                        refine lv_icmp_ne (tgt := 211) hx hb dX5_produce_195 (by decide) (fun c690223 => ?_) (fun c690223 => ?_)
                        · have kc690223 : ¬ (x690222.toInt = 1) := by have h9 := c690223; rw [xk_eq, xk_1] at h9; exact h9
                          have hRH8 : RHp (kxo σ) sg690220 P690003 := by rw [esg690220]; exact hSK.adh hP690003 hn690059 htO690003 (fun m hm => hLA (5 * P690003 + m) (by omega)) hE9 h60 rfl
                          have hRH9 := hRH8
                          refine lv_aload hx hb dX5_produce_211 (lv_at hl 3 rfl) ?_
                          obtain ⟨j690224, hj690224⟩ := pG_2 (cy := cy) (N := N) (T := T) (I := I690218) (Q := Q690218) (J := J690218) (hE.pL hP690003 htP690003).1 (hE.pL hP690003 htP690003).2
                          have hFc := pfree hD hS hA
                          refine va_callv (va_runV (As := []) (rest := []) ⟨hx, hb, hml, hown, hts⟩ (g_X2_raiseHw l dC dI cy v L K N T I690218 Q690218 J690218 H.size pa ra (kxo σ) sg690220 P690003 hE hP690003 htP690003 hRH9.1 hRH9.2.1 hRH9.2.2.1 hRH9.2.2.2) (cwV 0 hts gX5_produce_X2_raiseHw rfl rfl rfl (by decide +kernel) ⟨Nat.le_of_ble_eq_true rfl, Nat.le_of_ble_eq_true rfl⟩) ⟨pw_blind, va_recv hK hP (ci := 2) (q0 := j690224) rfl hj690224, fun U hU hW => ⟨rfl, pw_pre hP hK hN hD hU hW⟩⟩ rfl rfl hl.1 rfl (lv_room (Nat.le_of_ble_eq_true rfl)) dX5_produce_213 ⟨Nat.le_of_ble_eq_true rfl, Nat.le_of_ble_eq_true rfl⟩) hS (fun q _ h => hFc q h) hFc (fun d9 t H1 locs ht hvm hw hB hz1 hk1 hS => ?_)
                          obtain ⟨I690225, Q690225, J690225⟩ := d9
                          obtain ⟨hP, hK1, hD1⟩ := hB
                          rw [ht] at hP
                          have hD := hD1.weaken (fun _ _ _ h => hFc _ h)
                          generalize H1 = H at hP hS ⊢
                          have hP : va_P (dC, dI) vwCl (va_pl L (pF cy K N T I690225 Q690225 J690225)) H := hP
                          have hD : va_D A (va_pl L (pF cy K N T I690225 Q690225 J690225)) := hD
                          have hR : RS v I690225 Q690225 J690225 I690225 Q690225 J690225 := RS.rf
                          obtain ⟨sg690227, esg690227⟩ : ∃ z, z = oRi sg690220 P690003 := ⟨_, rfl⟩
                          have hE : REP v pa ra L K N T I690225 Q690225 J690225 (kxo σ) sg690227 := by rw [esg690227]; exact hw
                          have hC := hE.ct
                          have h1sg690227 : sg690227.1 = sg690220.1 := by rw [esg690227]; exact oRi_1 _ _
                          have hl690059 : lvj sg690227 P690003 n690059 := by unfold lvj; rw [h1sg690227]; exact hl690059
                          have htP690003 : ¬ sg690227.1 2 P690003 = 0 := by rw [h1sg690227]; exact htP690003
                          refine lv_aload hx hb dX5_produce_216 (lv_at hl 1 rfl) ?_
                          obtain ⟨j690228, hj690228⟩ := pG_4 (cy := cy) (N := N) (T := T) (I := I690225) (Q := Q690225) (J := J690225) (hE.rL hP690003 hn690059 hl690059).1 (hE.rL hP690003 hn690059 hl690059).2
                          refine va_get (D := (dC, dI)) (ci := 4) (v := .int (I690225 (ra (5 * P690003 + n690059)) 2)) (C := RX4) (T := TX4) (N := 7) hx hb hts hi4 hown hK hP j690228 hj690228 rfl 2 (by decide) (hts (.fieldLink RX5 132 "TallyLogs$Replica" "end" "I") (by decide +kernel)) (fun _ h9 => h9) rfl dX5_produce_218 ?_
                          refine lv_topi (fun x690229 ex690229 => ?_)
                          have sx690229 : x690229 = sg690227.2.1 (5 * P690003 + n690059) 2 := ex690229.trans (hE.g hP690003 hn690059 hl690059 (by decide) (by decide) (by decide))
                          have ux690229 := sx690229
                          have tx690229 : x690229.toInt = (sg690227.2.1 (5 * P690003 + n690059) 2).toInt := congrArg Int32.toInt sx690229
                          refine lv_iconst (v := 1) hx hb dX5_produce_221 (by decide) ?_
                          refine lv_isub hx hb dX5_produce_222 ?_
                          refine lv_topi (fun v690230 ev690230 => ?_)
                          refine W.widen (k := 1) (n := 8) (by omega) (by omega) ?_
                          have e9 : qPr σ xp hd sq ke va al = (sg690227, v690230) := by unfold qPr; rw [if_neg hit690003, if_neg hh9, cP690003, ho690059]; refine (if_neg hhd).trans ?_; rw [cj690009]; refine (if_neg (fun z => z.elim (fun y => y (by rw [← sx690061, ← hr690062]; exact c690063)) (fun y => c690066 (by rw [sx690065]; exact y)))).trans ?_; refine (if_neg (fun z => z.2 (by rw [← sx690158, ← sx690155, ← hr690156]; exact c690159))).trans ?_; rw [hfu]; show (match fD _ _ _ with | none => _ | some q => _ : SG × Int32) = _; rw [hfd]; refine (if_pos (by rw [← hr2]; exact c690209)).trans ?_; refine (if_neg hn60).trans ?_; have hvv : σ.2.1 (5 * P690003 + n690059) 2 = v690230 := (by rw [ev690230, ux690229, esg690227, oRi_g (by decide), esg690220, oAd_e, Int32.add_sub_cancel]); rw [ej690009, ← hg9, oPr_c hj690009 (fun z => c690223 (by rw [hmd]; exact z)), esg690227, esg690220, if_neg (fun z => c690223 (by rw [hmd]; exact z)), ← hvv]
                          have hk9 : kxo sg690227 = (kxo σ) := kxo_c (by rw [esg690227, oRi_1, esg690220, oAd_1]) (fun q => by rw [esg690227, oRi_1, esg690220, oAd_1])
                          exact W.iret (v := v690230) hx hb hr (fun t ht hW => ⟨⟨v690230, (L, K, T, I690225, Q690225, J690225), rfl, ⟨by show REP v pa ra L K N T I690225 Q690225 J690225 (kxo (qPr σ xp hd sq ke va al).1) (qPr σ xp hd sq ke va al).1; rw [e9]; show REP v pa ra L K N T I690225 Q690225 J690225 (kxo sg690227) sg690227; rw [hk9]; exact hE, by show _ = _; rw [e9]⟩, by rw [ht]; exact hP, va_K.moved hW.alike hK, hD⟩, hS.F ht⟩) hS.2.2 dX5_produce_223
                        · have kc690223 : x690222.toInt = 1 := by have h9 := c690223; rw [xk_eq, xk_1] at h9; exact h9
                          refine lv_aload hx hb dX5_produce_198 (lv_at hl 2 rfl) ?_
                          refine lv_dup hx hb dX5_produce_200 rfl ?_
                          obtain ⟨j690231, hj690231⟩ := pG_3 (cy := cy) (N := N) (T := T) (I := I690218) (Q := Q690218) (J := J690218) (hC.kp hj690009).1 (hC.kp hj690009).2
                          refine va_get (D := (dC, dI)) (ci := 3) (v := .int (I690218 (v (4 + j690009)) 5)) (C := RX3) (T := TX3) (N := 6) hx hb hts hi3 hown hK hP j690231 hj690231 rfl 5 (by decide) (hts (.fieldLink RX5 126 "TallyLogs$Producer" "left" "I") (by decide +kernel)) (fun _ h9 => h9) rfl dX5_produce_201 ?_
                          refine lv_topi (fun x690232 ex690232 => ?_)
                          have sx690232 : x690232 = sg690220.1 10 j690009 := ex690232.trans (hE.pr j690009 hj690009).2.2.2.1
                          refine lv_iconst (v := 1) hx hb dX5_produce_204 (by decide) ?_
                          refine lv_iload_n hx hb dX5_produce_205 rfl (lv_at hl 5 rfl) ?_
                          refine lv_ishl hx hb dX5_produce_206 ?_
                          refine lv_topi (fun v690233 ev690233 => ?_)
                          refine lv_ior hx hb dX5_produce_207 ?_
                          refine lv_topi (fun v690234 ev690234 => ?_)
                          obtain ⟨j690235, hj690235⟩ := pG_3 (cy := cy) (N := N) (T := T) (I := I690218) (Q := Q690218) (J := J690218) (hC.kp hj690009).1 (hC.kp hj690009).2
                          have hDo := hD
                          refine va_put (D := (dC, dI)) (ci := 3) (v := .int v690234) (ty := .int) (C := RX3) (T := TX3) (N := 6) hx hb hts hi3 tyX3 tyX3_ok nmX3 hown hK hP hD hS j690235 hj690235 rfl 5 (by decide) (hts (.fieldLink RX5 126 "TallyLogs$Producer" "left" "I") (by decide +kernel)) (fun _ h9 => h9) rfl (by decide +kernel) rfl rfl (Nat.le_of_ble_eq_true rfl) dX5_produce_208 (fun H locs hP hD hS => ?_)
                          have hP := Eq.mp (congrArg (fun w => va_P (dC, dI) vwCl w H) (pP_3_5 (x := v690234) hDo (hC.kp hj690009).1 (hC.kp hj690009).2 hj690235)) hP
                          obtain ⟨I690236, eI690236⟩ : ∃ z, z = p2 I690218 (v (4 + j690009)) 5 v690234 := ⟨_, rfl⟩
                          rw [← eI690236] at hP
                          have hR : RS v I690236 Q690218 J690218 I690236 Q690218 J690218 := RS.rf
                          obtain ⟨sg690237, esg690237⟩ : ∃ z, z = sA sg690220 10 j690009 v690234 := ⟨_, rfl⟩
                          have hE : REP v pa ra L K N T I690236 Q690218 J690218 (kxo σ) sg690237 := by rw [esg690237, eI690236]; exact hE.wleft hj690009
                          have hl690059 : lvj sg690237 P690003 n690059 := by rw [esg690237]; exact lvj_sA hl690059 (by decide) (by decide)
                          have htP690003 : ¬ sg690237.1 2 P690003 = 0 := by rw [esg690237, sA_n (by decide)]; exact htP690003
                          have hC : CT v L K N T I690236 Q690218 := by rw [eI690236]; exact hC.pi (by rw [(hC.kp hj690009).2]; decide)
                          have hD : va_D A (va_pl L (pF cy K N T I690236 Q690218 J690218)) := pD hDo
                          have hRH8 : RHp (kxo σ) sg690220 P690003 := by rw [esg690220]; exact hSK.adh hP690003 hn690059 htO690003 (fun m hm => hLA (5 * P690003 + m) (by omega)) hE9 h60 rfl
                          have hRH9 : RHp (kxo σ) sg690237 P690003 := by rw [esg690237]; exact hRH8.s10
                          refine lv_aload hx hb dX5_produce_211 (lv_at hl 3 rfl) ?_
                          obtain ⟨j690238, hj690238⟩ := pG_2 (cy := cy) (N := N) (T := T) (I := I690236) (Q := Q690218) (J := J690218) (hE.pL hP690003 htP690003).1 (hE.pL hP690003 htP690003).2
                          have hFc := pfree hD hS hA
                          refine va_callv (va_runV (As := []) (rest := []) ⟨hx, hb, hml, hown, hts⟩ (g_X2_raiseHw l dC dI cy v L K N T I690236 Q690218 J690218 H.size pa ra (kxo σ) sg690237 P690003 hE hP690003 htP690003 hRH9.1 hRH9.2.1 hRH9.2.2.1 hRH9.2.2.2) (cwV 0 hts gX5_produce_X2_raiseHw rfl rfl rfl (by decide +kernel) ⟨Nat.le_of_ble_eq_true rfl, Nat.le_of_ble_eq_true rfl⟩) ⟨pw_blind, va_recv hK hP (ci := 2) (q0 := j690238) rfl hj690238, fun U hU hW => ⟨rfl, pw_pre hP hK hN hD hU hW⟩⟩ rfl rfl hl.1 rfl (lv_room (Nat.le_of_ble_eq_true rfl)) dX5_produce_213 ⟨Nat.le_of_ble_eq_true rfl, Nat.le_of_ble_eq_true rfl⟩) hS (fun q _ h => hFc q h) hFc (fun d9 t H1 locs ht hvm hw hB hz1 hk1 hS => ?_)
                          obtain ⟨I690239, Q690239, J690239⟩ := d9
                          obtain ⟨hP, hK1, hD1⟩ := hB
                          rw [ht] at hP
                          have hD := hD1.weaken (fun _ _ _ h => hFc _ h)
                          generalize H1 = H at hP hS ⊢
                          have hP : va_P (dC, dI) vwCl (va_pl L (pF cy K N T I690239 Q690239 J690239)) H := hP
                          have hD : va_D A (va_pl L (pF cy K N T I690239 Q690239 J690239)) := hD
                          have hR : RS v I690239 Q690239 J690239 I690239 Q690239 J690239 := RS.rf
                          obtain ⟨sg690241, esg690241⟩ : ∃ z, z = oRi sg690237 P690003 := ⟨_, rfl⟩
                          have hE : REP v pa ra L K N T I690239 Q690239 J690239 (kxo σ) sg690241 := by rw [esg690241]; exact hw
                          have hC := hE.ct
                          have h1sg690241 : sg690241.1 = sg690237.1 := by rw [esg690241]; exact oRi_1 _ _
                          have hl690059 : lvj sg690241 P690003 n690059 := by unfold lvj; rw [h1sg690241]; exact hl690059
                          have htP690003 : ¬ sg690241.1 2 P690003 = 0 := by rw [h1sg690241]; exact htP690003
                          refine lv_aload hx hb dX5_produce_216 (lv_at hl 1 rfl) ?_
                          obtain ⟨j690242, hj690242⟩ := pG_4 (cy := cy) (N := N) (T := T) (I := I690239) (Q := Q690239) (J := J690239) (hE.rL hP690003 hn690059 hl690059).1 (hE.rL hP690003 hn690059 hl690059).2
                          refine va_get (D := (dC, dI)) (ci := 4) (v := .int (I690239 (ra (5 * P690003 + n690059)) 2)) (C := RX4) (T := TX4) (N := 7) hx hb hts hi4 hown hK hP j690242 hj690242 rfl 2 (by decide) (hts (.fieldLink RX5 132 "TallyLogs$Replica" "end" "I") (by decide +kernel)) (fun _ h9 => h9) rfl dX5_produce_218 ?_
                          refine lv_topi (fun x690243 ex690243 => ?_)
                          have sx690243 : x690243 = sg690241.2.1 (5 * P690003 + n690059) 2 := ex690243.trans (hE.g hP690003 hn690059 hl690059 (by decide) (by decide) (by decide))
                          have ux690243 := sx690243
                          have tx690243 : x690243.toInt = (sg690241.2.1 (5 * P690003 + n690059) 2).toInt := congrArg Int32.toInt sx690243
                          refine lv_iconst (v := 1) hx hb dX5_produce_221 (by decide) ?_
                          refine lv_isub hx hb dX5_produce_222 ?_
                          refine lv_topi (fun v690244 ev690244 => ?_)
                          refine W.widen (k := 1) (n := 8) (by omega) (by omega) ?_
                          have e9 : qPr σ xp hd sq ke va al = (sg690241, v690244) := by unfold qPr; rw [if_neg hit690003, if_neg hh9, cP690003, ho690059]; refine (if_neg hhd).trans ?_; rw [cj690009]; refine (if_neg (fun z => z.elim (fun y => y (by rw [← sx690061, ← hr690062]; exact c690063)) (fun y => c690066 (by rw [sx690065]; exact y)))).trans ?_; refine (if_neg (fun z => z.2 (by rw [← sx690158, ← sx690155, ← hr690156]; exact c690159))).trans ?_; rw [hfu]; show (match fD _ _ _ with | none => _ | some q => _ : SG × Int32) = _; rw [hfd]; refine (if_pos (by rw [← hr2]; exact c690209)).trans ?_; refine (if_neg hn60).trans ?_; have hvv : σ.2.1 (5 * P690003 + n690059) 2 = v690244 := (by rw [ev690244, ux690243, esg690241, oRi_g (by decide), esg690237, sA_2, esg690220, oAd_e, Int32.add_sub_cancel]); have hl9 : x690232 = σ.1 10 j690009 := (by rw [sx690232, esg690220, oAd_1]); rw [ej690009, ← hg9, oPr_o hj690009 (by rw [← hmd]; exact c690223), esg690241, esg690237, ev690234, hl9, ev690233, eP690003, esg690220, if_pos (by rw [← hmd]; exact c690223), ← hvv]
                          have hk9 : kxo sg690241 = (kxo σ) := kxo_c (by rw [esg690241, oRi_1, esg690237, sA_q (by omega), esg690220, oAd_1]) (fun q => by rw [esg690241, oRi_1, esg690237, sA_q (by omega), esg690220, oAd_1])
                          exact W.iret (v := v690244) hx hb hr (fun t ht hW => ⟨⟨v690244, (L, K, T, I690239, Q690239, J690239), rfl, ⟨by show REP v pa ra L K N T I690239 Q690239 J690239 (kxo (qPr σ xp hd sq ke va al).1) (qPr σ xp hd sq ke va al).1; rw [e9]; show REP v pa ra L K N T I690239 Q690239 J690239 (kxo sg690241) sg690241; rw [hk9]; exact hE, by show _ = _; rw [e9]⟩, by rw [ht]; exact hP, va_K.moved hW.alike hK, hD⟩, hS.F ht⟩) hS.2.2 dX5_produce_223
                      · have kc690212 : ¬ (r690210.toInt = 0) := by have h9 := c690212; rw [xk_eq, xk_0] at h9; exact h9
                        refine lv_bipush (v := (-3)) hx hb dX5_produce_161 (by decide) ?_
                        refine W.widen (k := 1) (n := 8) (by omega) (by omega) ?_
                        have e9 : qPr σ xp hd sq ke va al = (σ, (-3)) := by unfold qPr; rw [if_neg hit690003, if_neg hh9, cP690003, ho690059]; refine (if_neg hhd).trans ?_; rw [cj690009]; refine (if_neg (fun z => z.elim (fun y => y (by rw [← sx690061, ← hr690062]; exact c690063)) (fun y => c690066 (by rw [sx690065]; exact y)))).trans ?_; refine (if_neg (fun z => z.2 (by rw [← sx690158, ← sx690155, ← hr690156]; exact c690159))).trans ?_; rw [hfu]; show (match fD _ _ _ with | none => _ | some q => _ : SG × Int32) = _; rw [hfd]; refine (if_pos (by rw [← hr2]; exact c690209)).trans ?_; exact if_pos (by have z : ¬ σ.2.1 (5 * P690003 + n690059) 2 - σ.2.1 (5 * P690003 + n690059) 1 < 60 := (fun z => by rw [if_pos z] at hr690210; exact c690212 hr690210); rw [xk_lt, xsub (by omega) (by omega), show (60 : Int32).toInt = 60 by decide] at z; rw [xk_eq, xsub (by omega) (by omega), show (60 : Int32).toInt = 60 by decide]; omega)
                        have hk9 : kxo σ = (kxo σ) := rfl
                        exact W.iret (v := (-3)) hx hb hr (fun t ht hW => ⟨⟨(-3), (L, K, T, I, Q, J), rfl, ⟨by show REP v pa ra L K N T I Q J (kxo (qPr σ xp hd sq ke va al).1) (qPr σ xp hd sq ke va al).1; rw [e9]; show REP v pa ra L K N T I Q J (kxo σ) σ; rw [hk9]; exact hE, by show _ = _; rw [e9]⟩, by rw [ht]; exact hP, va_K.moved hW.alike hK, hD⟩, hS.F ht⟩) hS.2.2 dX5_produce_163
                    · have kc690209 : ¬ (sq.toInt = r690171.toInt) := by have h9 := c690209; rw [xk_eq] at h9; exact h9
                      refine lv_bipush (v := (-6)) hx hb dX5_produce_150 (by decide) ?_
                      refine W.widen (k := 1) (n := 8) (by omega) (by omega) ?_
                      have e9 : qPr σ xp hd sq ke va al = (σ, (-6)) := by unfold qPr; rw [if_neg hit690003, if_neg hh9, cP690003, ho690059]; refine (if_neg hhd).trans ?_; rw [cj690009]; refine (if_neg (fun z => z.elim (fun y => y (by rw [← sx690061, ← hr690062]; exact c690063)) (fun y => c690066 (by rw [sx690065]; exact y)))).trans ?_; refine (if_neg (fun z => z.2 (by rw [← sx690158, ← sx690155, ← hr690156]; exact c690159))).trans ?_; rw [hfu]; show (match fD _ _ _ with | none => _ | some q => _ : SG × Int32) = _; rw [hfd]; exact if_neg (fun z => c690209 (by rw [hr2]; exact z))
                      have hk9 : kxo σ = (kxo σ) := rfl
                      exact W.iret (v := (-6)) hx hb hr (fun t ht hW => ⟨⟨(-6), (L, K, T, I, Q, J), rfl, ⟨by show REP v pa ra L K N T I Q J (kxo (qPr σ xp hd sq ke va al).1) (qPr σ xp hd sq ke va al).1; rw [e9]; show REP v pa ra L K N T I Q J (kxo σ) σ; rw [hk9]; exact hE, by show _ = _; rw [e9]⟩, by rw [ht]; exact hP, va_K.moved hW.alike hK, hD⟩, hS.F ht⟩) hS.2.2 dX5_produce_152
                | some q9 =>
                  have hr1 : r690164 = nI q9 := by rw [hrv, hfu]; rfl
                  obtain ⟨hq1, hq2, _⟩ := fU_lt hfu
                  have hne1 : ¬ r690164 = -1 := by unfold zb ze at hq2; rw [hr1, xk_eq, nI_toInt (by omega), show (-1 : Int32).toInt = -1 by decide]; omega
                  refine lv_istore (lv' := [(10, .int r690164), (9, .ref (ra (5 * P690003 + n690059))), (8, .ref (v (4 + j690009))), (7, .ref (pa P690003)), (0, .ref (v 0)), (1, .int xp), (2, .int hd), (3, .int sq), (4, .int ke), (5, .int va), (6, .int al)]) hx hb dX5_produce_120 hl (by decide) rfl (fun ls hl => ?_)
                  refine lv_iload hx hb dX5_produce_122 (lv_at hl 0 rfl) ?_
                  refine lv_iconst (v := (-1)) hx hb dX5_produce_124 (by decide) ?_
                  refine lv_icmp_eq (tgt := 131) hx hb dX5_produce_125 (by decide) (fun c690245 => ?_) (fun c690245 => ?_)
                  · exact absurd c690245 hne1
                  refine lv_iload hx hb dX5_produce_128 (lv_at hl 0 rfl) ?_
                  refine W.widen (k := 1) (n := 8) (by omega) (by omega) ?_
                  have e9 : qPr σ xp hd sq ke va al = (σ, r690164) := by unfold qPr; rw [if_neg hit690003, if_neg hh9, cP690003, ho690059]; refine (if_neg hhd).trans ?_; rw [cj690009]; refine (if_neg (fun z => z.elim (fun y => y (by rw [← sx690061, ← hr690062]; exact c690063)) (fun y => c690066 (by rw [sx690065]; exact y)))).trans ?_; refine (if_neg (fun z => z.2 (by rw [← sx690158, ← sx690155, ← hr690156]; exact c690159))).trans ?_; rw [hfu]; show (σ, nI q9) = _; rw [hr1]
                  have hk9 : kxo σ = (kxo σ) := rfl
                  exact W.iret (v := r690164) hx hb hr (fun t ht hW => ⟨⟨r690164, (L, K, T, I, Q, J), rfl, ⟨by show REP v pa ra L K N T I Q J (kxo (qPr σ xp hd sq ke va al).1) (qPr σ xp hd sq ke va al).1; rw [e9]; show REP v pa ra L K N T I Q J (kxo σ) σ; rw [hk9]; exact hE, by show _ = _; rw [e9]⟩, by rw [ht]; exact hP, va_K.moved hW.alike hK, hD⟩, hS.F ht⟩) hS.2.2 dX5_produce_130
              · have kc690159 : ¬ (x690158.toInt ≤ r690156.toInt) := by have h9 := c690159; rw [xk_le] at h9; exact h9
                refine lv_bipush (v := (-5)) hx hb dX5_produce_96 (by decide) ?_
                refine W.widen (k := 1) (n := 8) (by omega) (by omega) ?_
                have e9 : qPr σ xp hd sq ke va al = (σ, (-5)) := by unfold qPr; rw [if_neg hit690003, if_neg hh9, cP690003, ho690059]; refine (if_neg hhd).trans ?_; rw [cj690009]; refine (if_neg (fun z => z.elim (fun y => y (by rw [← sx690061, ← hr690062]; exact c690063)) (fun y => c690066 (by rw [sx690065]; exact y)))).trans ?_; exact if_pos ⟨c690067, fun z => c690159 (by rw [hr690156, sx690155, sx690158]; exact z)⟩
                have hk9 : kxo σ = (kxo σ) := rfl
                exact W.iret (v := (-5)) hx hb hr (fun t ht hW => ⟨⟨(-5), (L, K, T, I, Q, J), rfl, ⟨by show REP v pa ra L K N T I Q J (kxo (qPr σ xp hd sq ke va al).1) (qPr σ xp hd sq ke va al).1; rw [e9]; show REP v pa ra L K N T I Q J (kxo σ) σ; rw [hk9]; exact hE, by show _ = _; rw [e9]⟩, by rw [ht]; exact hP, va_K.moved hW.alike hK, hD⟩, hS.F ht⟩) hS.2.2 dX5_produce_98
          · have kc690066 : x690065.toInt = 2 := by have h9 := c690066; rw [xk_eq, xk_2] at h9; exact h9
            refine lv_bipush (v := (-4)) hx hb dX5_produce_72 (by decide) ?_
            refine W.widen (k := 1) (n := 8) (by omega) (by omega) ?_
            have e9 : qPr σ xp hd sq ke va al = (σ, (-4)) := by unfold qPr; rw [if_neg hit690003, if_neg hh9, cP690003, ho690059]; refine (if_neg hhd).trans ?_; rw [cj690009]; exact if_pos (Or.inr (by rw [← sx690065]; exact c690066))
            have hk9 : kxo σ = (kxo σ) := rfl
            exact W.iret (v := (-4)) hx hb hr (fun t ht hW => ⟨⟨(-4), (L, K, T, I, Q, J), rfl, ⟨by show REP v pa ra L K N T I Q J (kxo (qPr σ xp hd sq ke va al).1) (qPr σ xp hd sq ke va al).1; rw [e9]; show REP v pa ra L K N T I Q J (kxo σ) σ; rw [hk9]; exact hE, by show _ = _; rw [e9]⟩, by rw [ht]; exact hP, va_K.moved hW.alike hK, hD⟩, hS.F ht⟩) hS.2.2 dX5_produce_74
