section XK
variable {u : Int32} {σ σ' : SG} {p j k : Nat} {E : Int}
theorem oDb_ln {o : Int32} (h : LN (σ.2.1 j)) (ho : o.toInt ≤ (σ.2.1 j 2).toInt) : LN ((oDb σ j o).2.1 j) := by
  unfold LN
  rw [oDb_1, oDb_2, imx_t]
  obtain ⟨h1, h2, h3, h4⟩ := h
  omega
theorem oTr_eq {o : Int32} (h1 : (σ.2.1 j 1).toInt ≤ (σ.2.1 j 2).toInt) (h2 : o.toInt ≤ (σ.2.1 j 2).toInt) : (sG (oFr σ j o) j 4 (imx ((oFr σ j o).2.1 j 4) ((oFr σ j o).2.1 j 1)), (oFr σ j o).2.1 j 2 - (oFr σ j o).2.1 j 1) = (oDb σ j o, (oDb σ j o).2.1 j 2 - (oDb σ j o).2.1 j 1) := by
  rw [oFr_eq h1 h2, oDb_1, oDb_2, sG_s, sG_o (g := 4) (f := 1) (by decide), sG_o (g := 2) (f := 1) (by decide)]
  rfl
theorem gTwo_g {f1 f2 i f : Nat} {x y : Int32} (h1 : ¬ f = f1) (h2 : ¬ f = f2) : ∀ n, (gTwo σ p f1 f2 x y n).2.1 i f = σ.2.1 i f := by
  intro n
  induction n with
  | zero => rfl
  | succ n ih =>
    show (sG (sG (gTwo σ p f1 f2 x y n) (5 * p + n) f1 x) (5 * p + n) f2 y).2.1 i f = _
    rw [sG_o h2, sG_o h1]; exact ih
theorem gTwo_z {f1 f2 : Nat} {x y : Int32} : ∀ n, (gTwo σ p f1 f2 x y n).2.2 = σ.2.2 := by
  intro n
  induction n with
  | zero => rfl
  | succ n ih => exact ih
theorem oPl_t {n nw : Int32} : (∀ i q, ¬ ((i = 4 ∨ i = 5) ∧ q = p) → (oPl σ p n nw).1 i q = σ.1 i q) ∧ (oPl σ p n nw).1 4 p = n := by
  unfold oPl
  rw [gTwo_1]
  exact ⟨fun i q h => by rw [sA_q (by omega), sA_q (by omega)], by rw [sA_q (by omega), sA_s]⟩
theorem oPl_kx1 {n nw : Int32} (h0 : σ'.1 0 0 = σ.1 0 0) (h4 : ∀ q, σ'.1 4 q = σ.1 4 q) : ∀ i, ¬ i / 5 = p → kxo σ i → kxo (oPl σ' p n nw) i := fun i hi z => by
  unfold kxo at z ⊢
  rw [oPl_t.1 0 0 (by omega), oPl_t.1 4 (i / 5) (by omega), h0, h4]
  exact z
theorem oPl_kx2 {m : Nat} {nw : Int32} (hm : m < 5) : kxo (oPl σ' p (nI m) nw) (5 * p + m) := by
  unfold kxo
  rw [show (5 * p + m) / 5 = p by omega, show (5 * p + m) % 5 = m by omega, oPl_t.2]
  exact Or.inl rfl
theorem oPl_rh {m : Nat} {nw : Int32} (hi : PI (σ.1 0 0) σ p) (ht : ¬ σ.1 2 p = 0) (hm : m < 5) (h3 : bt (σ.1 3 p) m) (hup : bt (σ.1 0 0) m) (s0 : σ'.1 0 0 = σ.1 0 0) (s2 : σ'.1 2 p = σ.1 2 p) (s3 : σ'.1 3 p = σ.1 3 p) (s7 : σ'.1 7 p = (if bt (σ.1 7 p) m then σ.1 7 p else 1 <<< (nI m &&& 31))) (hA : ∀ m, m < 5 → LN (σ'.2.1 (5 * p + m))) : RHp (kxo (oPl σ' p (nI m) nw)) (oPl σ' p (nI m) nw) p := by
  have h := oEl_PI (σ' := oPl σ' p (nI m) nw) (un := 0) hi ht hm h3 hup ⟨by rw [oPl_t.1 2 p (by omega)]; exact s2, by rw [oPl_t.1 3 p (by omega)]; exact s3, oPl_t.2, by rw [oPl_t.1 7 p (by omega)]; exact s7⟩
  rw [← s0, ← (oPl_t (σ := σ') (p := p) (n := nI m) (nw := nw)).1 0 0 (by omega)] at h
  refine h.rh (by rw [oPl_t.1 2 p (by omega), s2]; exact ht) (fun k hk => ?_)
  have := hA k hk
  unfold LN at this ⊢
  unfold oPl
  rw [gTwo_g (by decide) (by decide), gTwo_g (by decide) (by decide)]
  exact this
theorem sp_lo_0 : sp_lo 0 = -1 := by decide
theorem nI_n1 {m : Nat} (hm : m < 5) : ¬ nI m = (-1 : Int32) := fun z => by
  have := congrArg Int32.toInt z
  rw [nI_toInt (by omega), show (-1 : Int32).toInt = -1 by decide] at this
  omega
end XK
set_option maxHeartbeats 4000000 in
set_option maxRecDepth 100000 in
/-- flush, exactly -/
theorem g_X5_flush (l : Launch) (dC : Nat → ClassId) (dI : Nat → Nat → Nat) (cy : Nat → ClassId) (v : Nat → Nat) (L : List Nat) (K N : Nat → Nat) (T : Nat → Nat → Nat) (I : Nat → Nat → Int32) (Q : Nat → Nat → Option Nat) (J : Nat → Nat → Int32) (sz : Nat) (pa ra : Nat → Nat) (kx : Nat → Prop) (σ : SG) (E : Int) (xn xp : Int32) (hE : REP v pa ra L K N T I Q J kx σ) (hkx : kx = kxo σ) (hSK : SK σ) (hLA : LA E σ) (hE9 : E < 1900) (hB : B5 (σ.1 0 0)) : Met l yX5_flush wsX5_flush ({ frames := 2, cells := 0, slots := 0, locals := 44 }) (va_Pc [.ref (v 0), .int xn, .int xp] (pW dC dI cy L (pF cy K N T I Q J) sz)) (va_Qi (fun (r : Int32) (d : (Nat → Nat → Int32) × (Nat → Nat → Option Nat) × (Nat → Nat → Int32)) => (REP v pa ra L K N T d.1 d.2.1 d.2.2 (kxo (qFl σ xn xp).1) (qFl σ xn xp).1) ∧ r = (qFl σ xn xp).2) (fun (d : (Nat → Nat → Int32) × (Nat → Nat → Option Nat) × (Nat → Nat → Int32)) t => va_P (dC, dI) vwCl (va_pl L (pF cy K N T d.1 d.2.1 d.2.2)) t.heap ∧ va_K (dC, dI) vwCl (pTy cy) t ∧ va_D (va_A (va_pl L (pF cy K N T I Q J)) sz) (va_pl L (pF cy K N T d.1 d.2.1 d.2.2))) (va_A (va_pl L (pF cy K N T I Q J)) sz)) 0 0 (va_A (va_pl L (pF cy K N T I Q J)) sz) := by
  refine Met.ofW (cc := cX5_flush) (maxL := 5) (ret := (some .int)) (by decide) rfl ?_
  intro p e s m args below meth c s₁ B hml hv
  obtain ⟨rfl, hsz, ⟨hP, hK, hN⟩, hD0⟩ := hv
  have hx := B.exec
  have hb := B.bytes
  have hr := B.returns
  have hts := atoms_spec (ws := wsX5_flush) B.pre
  have hown : s.vm.findClass RX5 = some m.cls := findClass_of_methodNamed B.named
  have hlocks := B.notSynchronized
  have hi5 : ∀ w ∈ wsX50, w ∈ wsX5_flush := by decide +kernel
  have hi4 : ∀ w ∈ wsX40, w ∈ wsX5_flush := by decide +kernel
  have hl := lv_entry ([.ref (v 0), .int xn, .int xp]) (n := 5) (Nat.le_of_ble_eq_true rfl)
  rw [lg_entry_eq]
  generalize (lg_sl ([.ref (v 0), .int xn, .int xp]) ++ List.replicate (5 - (lg_sl ([.ref (v 0), .int xn, .int xp])).length) Slot.unset).toArray = ls at hl ⊢
  have hl : lv_has ls 5 [(0, .ref (v 0)), (1, .int xn), (2, .int xp)] := hl
  subst hsz
  have hD := hD0.self (sz := s.heap.size)
  generalize hAe : va_A (va_pl L (pF cy K N T I Q J)) s.heap.size = A at hD ⊢
  have hA : ∀ q : Nat, s.heap.size ≤ q → A q := fun q h => by rw [← hAe]; exact Or.inr h
  have hS : va_S A s.heap s.heap [] := va_S.rf
  have hR : RS v I Q J I Q J := RS.rf
  have hn28 := hN.1
  have hn30 := hN.2.1
  have hn37 := hN.2.2.1
  have hC := hE.ct
  subst hkx
  refine lv_aload_n hx hb dX5_flush_0 rfl (lv_at hl 0 rfl) ?_
  refine lv_iload_n hx hb dX5_flush_1 rfl (lv_at hl 1 rfl) ?_
  refine lv_iload_n hx hb dX5_flush_2 rfl (lv_at hl 2 rfl) ?_
  obtain ⟨j620002, hj620002⟩ := pG_5 (cy := cy) (N := N) (T := T) (I := I) (Q := Q) (J := J) (hC.at 0 (by decide)) (hC.k 0 (by decide) rfl)
  refine va_csq (W.runV (As := [.int xn, .int xp]) (rest := []) ⟨hx, hb, hml, hown, hts⟩ (g_X5_replicaOf l dC dI cy v L K N T I Q J pa ra (kxo σ) σ xn xp hE) (cwV 2 hts gX5_flush_X5_replicaOf rfl rfl rfl (by decide +kernel) ⟨Nat.le_of_ble_eq_true rfl, Nat.le_of_ble_eq_true rfl⟩) ⟨pb_blind, va_recv hK hP (ci := 5) (q0 := j620002) rfl hj620002, fun U hU hW => ⟨rfl, pb_pre hP hK hN hU hW⟩⟩ rfl rfl hl.1 rfl (lv_room (Nat.le_of_ble_eq_true rfl)) dX5_flush_3 ⟨Nat.le_of_ble_eq_true rfl, Nat.le_of_ble_eq_true rfl⟩) (fun r620001 hr620001 => ?_)
  rcases hr620001 with ⟨rfl, hrn620003⟩ | ⟨P620003, n620003, hP620003, hn620003, eP620003, en620003, hl620003, rfl⟩
  · refine W.eq (g2 := F0 m 6 ls [.null]) rfl ?_
    refine lv_astore_nN (lv' := [(3, .null), (0, .ref (v 0)), (1, .int xn), (2, .int xp)]) hx hb dX5_flush_6 rfl hl (by decide) rfl (fun ls hl => ?_)
    refine lv_aload_nN hx hb dX5_flush_7 rfl (lv_at hl 0 rfl) ?_
    refine lv_ifnullN (tgt := 22) hx hb dX5_flush_8 (by decide) ?_
    refine lv_iconst (v := (-1)) hx hb dX5_flush_22 (by decide) ?_
    have e9 : qFl σ xn xp = (σ, (-1)) := by unfold qFl; rw [if_pos hrn620003]
    have hk9 : kxo σ = (kxo σ) := rfl
    exact W.iret (v := (-1)) hx hb hr (fun t ht hW => ⟨⟨(-1), (I, Q, J), rfl, ⟨by show REP v pa ra L K N T I Q J (kxo (qFl σ xn xp).1) (qFl σ xn xp).1; rw [e9]; show REP v pa ra L K N T I Q J (kxo σ) σ; rw [hk9]; exact hE, by show _ = _; rw [e9]⟩, by rw [ht]; exact hP, va_K.moved hW.alike hK, hD⟩, hS.F ht⟩) hS.2.2 dX5_flush_23
  · refine W.eq (g2 := F0 m 6 ls [.ref (ra (5 * P620003 + n620003))]) rfl ?_
    have cP620003 := nI_cl (by omega) eP620003
    have cn620003 := nI_cl (by omega) en620003
    have hir620003 := sp_ir_y (t := σ.1 2) (r := σ.1 3) hP620003 hn620003 eP620003 en620003 hl620003.1 hl620003.2
    have hlO620003 := hl620003
    refine lv_astore_n (lv' := [(3, .ref (ra (5 * P620003 + n620003))), (0, .ref (v 0)), (1, .int xn), (2, .int xp)]) hx hb dX5_flush_6 rfl hl (by decide) rfl (fun ls hl => ?_)
    refine lv_aload_n hx hb dX5_flush_7 rfl (lv_at hl 0 rfl) ?_
    refine lv_ifnull hx hb dX5_flush_8 ?_
    refine lv_aload_n hx hb dX5_flush_11 rfl (lv_at hl 1 rfl) ?_
    obtain ⟨j620004, hj620004⟩ := pG_5 (cy := cy) (N := N) (T := T) (I := I) (Q := Q) (J := J) (hC.at 0 (by decide)) (hC.k 0 (by decide) rfl)
    refine va_get (D := (dC, dI)) (ci := 5) (v := .int (I (v 0) 3)) (C := RX5) (T := TX5) (N := 6) hx hb hts hi5 hown hK hP j620004 hj620004 rfl 3 (by decide) (hts (.fieldLink RX5 27 "TallyLogs" "up" "I") (by decide +kernel)) (fun _ h9 => h9) rfl dX5_flush_12 ?_
    refine lv_topi (fun x620005 ex620005 => ?_)
    have sx620005 : x620005 = σ.1 0 0 := ex620005.trans hE.up
    refine lv_iload_n hx hb dX5_flush_15 rfl (lv_at hl 2 rfl) ?_
    refine vp_callSi (W.runS (As := [.int x620005, .int xn]) (rest := []) ⟨hx, hb, hml, hown, hts⟩ (c_X5_contains l x620005 xn) (va_cwS 2 hts gX5_flush_X5_contains rfl rfl rfl (by decide +kernel) ⟨Nat.le_of_ble_eq_true rfl, Nat.le_of_ble_eq_true rfl⟩) preEq rfl rfl hl.1 rfl (lv_room (Nat.le_of_ble_eq_true rfl)) dX5_flush_16 ⟨Nat.le_of_ble_eq_true rfl, Nat.le_of_ble_eq_true rfl⟩) (fun r620006 hr620006 => ?_)
    refine lv_if_ne (tgt := 24) hx hb dX5_flush_19 (by decide) (fun c620007 => ?_) (fun c620007 => ?_)
    · have kc620007 : ¬ (r620006.toInt = 0) := by have h9 := c620007; rw [xk_eq, xk_0] at h9; exact h9
      refine lv_aload_n hx hb dX5_flush_24 rfl (lv_at hl 0 rfl) ?_
      obtain ⟨j620008, hj620008⟩ := pG_4 (cy := cy) (N := N) (T := T) (I := I) (Q := Q) (J := J) (hE.rL hP620003 hn620003 hl620003).1 (hE.rL hP620003 hn620003 hl620003).2
      refine va_get (D := (dC, dI)) (ci := 4) (v := .int (I (ra (5 * P620003 + n620003)) 2)) (C := RX4) (T := TX4) (N := 7) hx hb hts hi4 hown hK hP j620008 hj620008 rfl 2 (by decide) (hts (.fieldLink RX5 132 "TallyLogs$Replica" "end" "I") (by decide +kernel)) (fun _ h9 => h9) rfl dX5_flush_25 ?_
      refine lv_topi (fun x620009 ex620009 => ?_)
      have sx620009 : x620009 = σ.2.1 (5 * P620003 + n620003) 2 := ex620009.trans (hE.g hP620003 hn620003 hl620003 (by decide) (by decide) (by decide))
      have ux620009 := sx620009
      have tx620009 : x620009.toInt = (σ.2.1 (5 * P620003 + n620003) 2).toInt := congrArg Int32.toInt sx620009
      refine lv_aload_n hx hb dX5_flush_28 rfl (lv_at hl 0 rfl) ?_
      obtain ⟨j620010, hj620010⟩ := pG_4 (cy := cy) (N := N) (T := T) (I := I) (Q := Q) (J := J) (hE.rL hP620003 hn620003 hl620003).1 (hE.rL hP620003 hn620003 hl620003).2
      refine va_get (D := (dC, dI)) (ci := 4) (v := .int (I (ra (5 * P620003 + n620003)) 4)) (C := RX4) (T := TX4) (N := 7) hx hb hts hi4 hown hK hP j620010 hj620010 rfl 4 (by decide) (hts (.fieldLink RX5 223 "TallyLogs$Replica" "flushed" "I") (by decide +kernel)) (fun _ h9 => h9) rfl dX5_flush_29 ?_
      refine lv_topi (fun x620011 ex620011 => ?_)
      have sx620011 : x620011 = σ.2.1 (5 * P620003 + n620003) 4 := ex620011.trans (hE.g hP620003 hn620003 hl620003 (by decide) (by decide) (by decide))
      have ux620011 := sx620011
      have tx620011 : x620011.toInt = (σ.2.1 (5 * P620003 + n620003) 4).toInt := congrArg Int32.toInt sx620011
      refine lv_isub hx hb dX5_flush_32 ?_
      refine lv_topi (fun v620012 ev620012 => ?_)
      refine lv_istore (lv' := [(4, .int v620012), (3, .ref (ra (5 * P620003 + n620003))), (0, .ref (v 0)), (1, .int xn), (2, .int xp)]) hx hb dX5_flush_33 hl (by decide) rfl (fun ls hl => ?_)
      refine lv_aload_n hx hb dX5_flush_35 rfl (lv_at hl 1 rfl) ?_
      refine lv_aload_n hx hb dX5_flush_36 rfl (lv_at hl 1 rfl) ?_
      obtain ⟨j620013, hj620013⟩ := pG_4 (cy := cy) (N := N) (T := T) (I := I) (Q := Q) (J := J) (hE.rL hP620003 hn620003 hl620003).1 (hE.rL hP620003 hn620003 hl620003).2
      refine va_get (D := (dC, dI)) (ci := 4) (v := .int (I (ra (5 * P620003 + n620003)) 2)) (C := RX4) (T := TX4) (N := 7) hx hb hts hi4 hown hK hP j620013 hj620013 rfl 2 (by decide) (hts (.fieldLink RX5 132 "TallyLogs$Replica" "end" "I") (by decide +kernel)) (fun _ h9 => h9) rfl dX5_flush_37 ?_
      refine lv_topi (fun x620014 ex620014 => ?_)
      have sx620014 : x620014 = σ.2.1 (5 * P620003 + n620003) 2 := ex620014.trans (hE.g hP620003 hn620003 hl620003 (by decide) (by decide) (by decide))
      have ux620014 := sx620014
      have tx620014 : x620014.toInt = (σ.2.1 (5 * P620003 + n620003) 2).toInt := congrArg Int32.toInt sx620014
      obtain ⟨j620015, hj620015⟩ := pG_4 (cy := cy) (N := N) (T := T) (I := I) (Q := Q) (J := J) (hE.rL hP620003 hn620003 hl620003).1 (hE.rL hP620003 hn620003 hl620003).2
      have hDo := hD
      refine va_put (D := (dC, dI)) (ci := 4) (v := .int x620014) (ty := .int) (C := RX4) (T := TX4) (N := 7) hx hb hts hi4 tyX4 tyX4_ok nmX4 hown hK hP hD hS j620015 hj620015 rfl 4 (by decide) (hts (.fieldLink RX5 223 "TallyLogs$Replica" "flushed" "I") (by decide +kernel)) (fun _ h9 => h9) rfl (by decide +kernel) rfl rfl (Nat.le_of_ble_eq_true rfl) dX5_flush_40 (fun H locs hP hD hS => ?_)
      have hP := Eq.mp (congrArg (fun w => va_P (dC, dI) vwCl w H) (pP_4_4 (x := x620014) hDo (hE.rL hP620003 hn620003 hl620003).1 (hE.rL hP620003 hn620003 hl620003).2 hj620015)) hP
      obtain ⟨I620016, eI620016⟩ : ∃ z, z = p2 I (ra (5 * P620003 + n620003)) 4 x620014 := ⟨_, rfl⟩
      rw [← eI620016] at hP
      have hR : RS v I620016 Q J I620016 Q J := RS.rf
      obtain ⟨sg620017, esg620017⟩ : ∃ z, z = sG σ (5 * P620003 + n620003) 4 x620014 := ⟨_, rfl⟩
      have hE : REP v pa ra L K N T I620016 Q J (kxo σ) sg620017 := by rw [esg620017, eI620016]; exact hE.wr hP620003 hn620003 hl620003 (by decide) (by decide) (fun _ _ z => z)
      have hl620003 : lvj sg620017 P620003 n620003 := by rw [esg620017]; exact hl620003
      have hC : CT v L K N T I620016 Q := by rw [eI620016]; exact hC.pi (by rw [(hE.rL hP620003 hn620003 hl620003).2]; decide)
      have hD : va_D A (va_pl L (pF cy K N T I620016 Q J)) := pD hDo
      refine lv_iload hx hb dX5_flush_43 (lv_at hl 0 rfl) ?_
      have e9 : qFl σ xn xp = (sg620017, v620012) := by unfold qFl; rw [if_neg hir620003, if_neg (fun z => c620007 (by rw [hr620006, sx620005]; rw [en620003] at z ⊢; exact (sp_iu_cn hn620003).mp z)), cP620003, cn620003, esg620017, sx620014, ev620012, sx620009, sx620011]
      have hk9 : kxo sg620017 = (kxo σ) := kxo_c (by rw [esg620017, sG_1]) (fun q => by rw [esg620017, sG_1])
      exact W.iret (v := v620012) hx hb hr (fun t ht hW => ⟨⟨v620012, (I620016, Q, J), rfl, ⟨by show REP v pa ra L K N T I620016 Q J (kxo (qFl σ xn xp).1) (qFl σ xn xp).1; rw [e9]; show REP v pa ra L K N T I620016 Q J (kxo sg620017) sg620017; rw [hk9]; exact hE, by show _ = _; rw [e9]⟩, by rw [ht]; exact hP, va_K.moved hW.alike hK, hD⟩, hS.F ht⟩) hS.2.2 dX5_flush_45
    · have kc620007 : r620006.toInt = 0 := by have h9 := c620007; rw [xk_eq, xk_0] at h9; exact h9
      refine lv_iconst (v := (-1)) hx hb dX5_flush_22 (by decide) ?_
      have e9 : qFl σ xn xp = (σ, (-1)) := by unfold qFl; rw [if_neg hir620003, if_pos (by rw [en620003]; exact (sp_iu_cn hn620003).mpr (by rw [← en620003, ← sx620005, ← hr620006]; exact c620007))]
      have hk9 : kxo σ = (kxo σ) := rfl
      exact W.iret (v := (-1)) hx hb hr (fun t ht hW => ⟨⟨(-1), (I, Q, J), rfl, ⟨by show REP v pa ra L K N T I Q J (kxo (qFl σ xn xp).1) (qFl σ xn xp).1; rw [e9]; show REP v pa ra L K N T I Q J (kxo σ) σ; rw [hk9]; exact hE, by show _ = _; rw [e9]⟩, by rw [ht]; exact hP, va_K.moved hW.alike hK, hD⟩, hS.F ht⟩) hS.2.2 dX5_flush_23
set_option maxHeartbeats 4000000 in
set_option maxRecDepth 100000 in
/-- trim, exactly -/
theorem g_X5_trim (l : Launch) (dC : Nat → ClassId) (dI : Nat → Nat → Nat) (cy : Nat → ClassId) (v : Nat → Nat) (L : List Nat) (K N : Nat → Nat) (T : Nat → Nat → Nat) (I : Nat → Nat → Int32) (Q : Nat → Nat → Option Nat) (J : Nat → Nat → Int32) (sz : Nat) (pa ra : Nat → Nat) (kx : Nat → Prop) (σ : SG) (E : Int) (xp xo : Int32) (hE : REP v pa ra L K N T I Q J kx σ) (hkx : kx = kxo σ) (hSK : SK σ) (hLA : LA E σ) (hE9 : E < 1900) (hB : B5 (σ.1 0 0)) : Met l yX5_trim wsX5_trim ({ frames := 2, cells := 0, slots := 0, locals := 42 }) (va_Pc [.ref (v 0), .int xp, .int xo] (pW dC dI cy L (pF cy K N T I Q J) sz)) (va_Qi (fun (r : Int32) (d : (Nat → Nat → Int32) × (Nat → Nat → Option Nat) × (Nat → Nat → Int32)) => (REP v pa ra L K N T d.1 d.2.1 d.2.2 (kxo (qTr σ xp xo).1) (qTr σ xp xo).1) ∧ r = (qTr σ xp xo).2) (fun (d : (Nat → Nat → Int32) × (Nat → Nat → Option Nat) × (Nat → Nat → Int32)) t => va_P (dC, dI) vwCl (va_pl L (pF cy K N T d.1 d.2.1 d.2.2)) t.heap ∧ va_K (dC, dI) vwCl (pTy cy) t ∧ va_D (va_A (va_pl L (pF cy K N T I Q J)) sz) (va_pl L (pF cy K N T d.1 d.2.1 d.2.2))) (va_A (va_pl L (pF cy K N T I Q J)) sz)) 0 0 (va_A (va_pl L (pF cy K N T I Q J)) sz) := by
  refine Met.ofW (cc := cX5_trim) (maxL := 5) (ret := (some .int)) (by decide) rfl ?_
  intro p e s m args below meth c s₁ B hml hv
  obtain ⟨rfl, hsz, ⟨hP, hK, hN⟩, hD0⟩ := hv
  have hx := B.exec
  have hb := B.bytes
  have hr := B.returns
  have hts := atoms_spec (ws := wsX5_trim) B.pre
  have hown : s.vm.findClass RX5 = some m.cls := findClass_of_methodNamed B.named
  have hlocks := B.notSynchronized
  have hi5 : ∀ w ∈ wsX50, w ∈ wsX5_trim := by decide +kernel
  have hi4 : ∀ w ∈ wsX40, w ∈ wsX5_trim := by decide +kernel
  have hl := lv_entry ([.ref (v 0), .int xp, .int xo]) (n := 5) (Nat.le_of_ble_eq_true rfl)
  rw [lg_entry_eq]
  generalize (lg_sl ([.ref (v 0), .int xp, .int xo]) ++ List.replicate (5 - (lg_sl ([.ref (v 0), .int xp, .int xo])).length) Slot.unset).toArray = ls at hl ⊢
  have hl : lv_has ls 5 [(0, .ref (v 0)), (1, .int xp), (2, .int xo)] := hl
  subst hsz
  have hD := hD0.self (sz := s.heap.size)
  generalize hAe : va_A (va_pl L (pF cy K N T I Q J)) s.heap.size = A at hD ⊢
  have hA : ∀ q : Nat, s.heap.size ≤ q → A q := fun q h => by rw [← hAe]; exact Or.inr h
  have hS : va_S A s.heap s.heap [] := va_S.rf
  have hR : RS v I Q J I Q J := RS.rf
  have hn28 := hN.1
  have hn30 := hN.2.1
  have hn37 := hN.2.2.1
  have hC := hE.ct
  subst hkx
  refine lv_aload_n hx hb dX5_trim_0 rfl (lv_at hl 0 rfl) ?_
  refine lv_iload_n hx hb dX5_trim_1 rfl (lv_at hl 1 rfl) ?_
  obtain ⟨j620019, hj620019⟩ := pG_5 (cy := cy) (N := N) (T := T) (I := I) (Q := Q) (J := J) (hC.at 0 (by decide)) (hC.k 0 (by decide) rfl)
  refine va_csq (W.runV (As := [.int xp]) (rest := []) ⟨hx, hb, hml, hown, hts⟩ (g_X5_partitionAt l dC dI cy v L K N T I Q J pa ra (kxo σ) σ xp hE) (cwV 1 hts gX5_trim_X5_partitionAt rfl rfl rfl (by decide +kernel) ⟨Nat.le_of_ble_eq_true rfl, Nat.le_of_ble_eq_true rfl⟩) ⟨pb_blind, va_recv hK hP (ci := 5) (q0 := j620019) rfl hj620019, fun U hU hW => ⟨rfl, pb_pre hP hK hN hU hW⟩⟩ rfl rfl hl.1 rfl (lv_room (Nat.le_of_ble_eq_true rfl)) dX5_trim_2 ⟨Nat.le_of_ble_eq_true rfl, Nat.le_of_ble_eq_true rfl⟩) (fun r620018 hr620018 => ?_)
  rcases hr620018 with ⟨rfl, hpn620020⟩ | ⟨P620020, hP620020, eP620020, htP620020, rfl⟩
  · refine W.eq (g2 := F0 m 5 ls [.null]) rfl ?_
    refine lv_astore_nN (lv' := [(3, .null), (0, .ref (v 0)), (1, .int xp), (2, .int xo)]) hx hb dX5_trim_5 rfl hl (by decide) rfl (fun ls hl => ?_)
    refine lv_aload_nN hx hb dX5_trim_6 rfl (lv_at hl 0 rfl) ?_
    refine lv_ifnonnullN hx hb dX5_trim_7 ?_
    refine lv_iconst (v := (-1)) hx hb dX5_trim_10 (by decide) ?_
    have e9 : qTr σ xp xo = (σ, (-1)) := by unfold qTr; rw [if_pos hpn620020]
    have hk9 : kxo σ = (kxo σ) := rfl
    exact W.iret (v := (-1)) hx hb hr (fun t ht hW => ⟨⟨(-1), (I, Q, J), rfl, ⟨by show REP v pa ra L K N T I Q J (kxo (qTr σ xp xo).1) (qTr σ xp xo).1; rw [e9]; show REP v pa ra L K N T I Q J (kxo σ) σ; rw [hk9]; exact hE, by show _ = _; rw [e9]⟩, by rw [ht]; exact hP, va_K.moved hW.alike hK, hD⟩, hS.F ht⟩) hS.2.2 dX5_trim_11
  · refine W.eq (g2 := F0 m 5 ls [.ref (pa P620020)]) rfl ?_
    have hit620020 := sp_it_y (f := σ.1 2) hP620020 eP620020 htP620020
    have cP620020 := nI_cl (by omega) eP620020
    have hPI620020 := hSK.1 P620020 hP620020
    have hPL620020 := hPI620020.pl htP620020
    have htO620020 := htP620020
    refine lv_astore_n (lv' := [(3, .ref (pa P620020)), (0, .ref (v 0)), (1, .int xp), (2, .int xo)]) hx hb dX5_trim_5 rfl hl (by decide) rfl (fun ls hl => ?_)
    refine lv_aload_n hx hb dX5_trim_6 rfl (lv_at hl 0 rfl) ?_
    refine lv_ifnonnull (tgt := 12) hx hb dX5_trim_7 (by decide) ?_
    refine lv_aload_n hx hb dX5_trim_12 rfl (lv_at hl 0 rfl) ?_
    obtain ⟨j620022, hj620022⟩ := pG_2 (cy := cy) (N := N) (T := T) (I := I) (Q := Q) (J := J) (hE.pL hP620020 htP620020).1 (hE.pL hP620020 htP620020).2
    refine va_csq (W.runV (As := []) (rest := []) ⟨hx, hb, hml, hown, hts⟩ (g_X2_leading l dC dI cy v L K N T I Q J pa ra (kxo σ) σ P620020 hE hP620020 htP620020) (cwV 0 hts gX5_trim_X2_leading rfl rfl rfl (by decide +kernel) ⟨Nat.le_of_ble_eq_true rfl, Nat.le_of_ble_eq_true rfl⟩) ⟨pb_blind, va_recv hK hP (ci := 2) (q0 := j620022) rfl hj620022, fun U hU hW => ⟨rfl, pb_pre hP hK hN hU hW⟩⟩ rfl rfl hl.1 rfl (lv_room (Nat.le_of_ble_eq_true rfl)) dX5_trim_13 ⟨Nat.le_of_ble_eq_true rfl, Nat.le_of_ble_eq_true rfl⟩) (fun r620021 hr620021 => ?_)
    rcases hr620021 with ⟨rfl, hno620023⟩ | ⟨n620023, hn620023, en620023, hl620023, rfl⟩
    · refine W.eq (g2 := F0 m 16 ls [.null]) rfl ?_
      have ho620023 := hPL620020.no hno620023
      refine lv_astoreN (lv' := [(4, .null), (3, .ref (pa P620020)), (0, .ref (v 0)), (1, .int xp), (2, .int xo)]) hx hb dX5_trim_16 hl (by decide) rfl (fun ls hl => ?_)
      refine lv_aloadN hx hb dX5_trim_18 (lv_at hl 0 rfl) ?_
      refine lv_ifnonnullN hx hb dX5_trim_20 ?_
      refine lv_bipush (v := (-2)) hx hb dX5_trim_23 (by decide) ?_
      have e9 : qTr σ xp xo = (σ, (-2)) := by unfold qTr; rw [if_neg hit620020, cP620020, ho620023]
      have hk9 : kxo σ = (kxo σ) := rfl
      exact W.iret (v := (-2)) hx hb hr (fun t ht hW => ⟨⟨(-2), (I, Q, J), rfl, ⟨by show REP v pa ra L K N T I Q J (kxo (qTr σ xp xo).1) (qTr σ xp xo).1; rw [e9]; show REP v pa ra L K N T I Q J (kxo σ) σ; rw [hk9]; exact hE, by show _ = _; rw [e9]⟩, by rw [ht]; exact hP, va_K.moved hW.alike hK, hD⟩, hS.F ht⟩) hS.2.2 dX5_trim_25
    · refine W.eq (g2 := F0 m 16 ls [.ref (ra (5 * P620020 + n620023))]) rfl ?_
      have hst620023 := hPL620020.at hn620023 en620023
      have ho620023 := oOw_c hn620023 en620023 hst620023.2
      have hLI620023 := hLA (5 * P620020 + n620023) (by omega)
      have hNl620023 := hLI620023.ln (by omega)
      obtain ⟨q1620023, q2620023, q3620023, q4620023, q5620023, q6620023⟩ := id hLI620023
      have hRF620023 := hSK.2.1 (5 * P620020 + n620023) (by omega)
      have hlO620023 := hl620023
      refine lv_astore (lv' := [(4, .ref (ra (5 * P620020 + n620023))), (3, .ref (pa P620020)), (0, .ref (v 0)), (1, .int xp), (2, .int xo)]) hx hb dX5_trim_16 hl (by decide) rfl (fun ls hl => ?_)
      refine lv_aload hx hb dX5_trim_18 (lv_at hl 0 rfl) ?_
      refine lv_ifnonnull (tgt := 26) hx hb dX5_trim_20 (by decide) ?_
      refine lv_iload_n hx hb dX5_trim_26 rfl (lv_at hl 4 rfl) ?_
      refine lv_aload hx hb dX5_trim_27 (lv_at hl 0 rfl) ?_
      obtain ⟨j620024, hj620024⟩ := pG_4 (cy := cy) (N := N) (T := T) (I := I) (Q := Q) (J := J) (hE.rL hP620020 hn620023 hl620023).1 (hE.rL hP620020 hn620023 hl620023).2
      refine va_get (D := (dC, dI)) (ci := 4) (v := .int (I (ra (5 * P620020 + n620023)) 1)) (C := RX4) (T := TX4) (N := 7) hx hb hts hi4 hown hK hP j620024 hj620024 rfl 1 (by decide) (hts (.fieldLink RX5 167 "TallyLogs$Replica" "start" "I") (by decide +kernel)) (fun _ h9 => h9) rfl dX5_trim_29 ?_
      refine lv_topi (fun x620025 ex620025 => ?_)
      have sx620025 : x620025 = σ.2.1 (5 * P620020 + n620023) 1 := ex620025.trans (hE.g hP620020 hn620023 hl620023 (by decide) (by decide) (by decide))
      have ux620025 := sx620025
      have tx620025 : x620025.toInt = (σ.2.1 (5 * P620020 + n620023) 1).toInt := congrArg Int32.toInt sx620025
      refine lv_icmp_lt (tgt := 44) hx hb dX5_trim_32 (by decide) (fun c620026 => ?_) (fun c620026 => ?_)
      · have kc620026 : xo.toInt < x620025.toInt := by have h9 := c620026; rw [xk_lt] at h9; exact h9
        refine lv_iconst (v := (-1)) hx hb dX5_trim_44 (by decide) ?_
        have e9 : qTr σ xp xo = (σ, (-1)) := by unfold qTr; rw [if_neg hit620020, cP620020, ho620023]; exact if_pos (sp_inl_no (Int32.toInt_toInt64 _) (Int32.toInt_toInt64 _) (by omega))
        have hk9 : kxo σ = (kxo σ) := rfl
        exact W.iret (v := (-1)) hx hb hr (fun t ht hW => ⟨⟨(-1), (I, Q, J), rfl, ⟨by show REP v pa ra L K N T I Q J (kxo (qTr σ xp xo).1) (qTr σ xp xo).1; rw [e9]; show REP v pa ra L K N T I Q J (kxo σ) σ; rw [hk9]; exact hE, by show _ = _; rw [e9]⟩, by rw [ht]; exact hP, va_K.moved hW.alike hK, hD⟩, hS.F ht⟩) hS.2.2 dX5_trim_45
      · have kc620026 : ¬ (xo.toInt < x620025.toInt) := by have h9 := c620026; rw [xk_lt] at h9; exact h9
        refine lv_iload_n hx hb dX5_trim_35 rfl (lv_at hl 4 rfl) ?_
        refine lv_aload hx hb dX5_trim_36 (lv_at hl 0 rfl) ?_
        obtain ⟨j620027, hj620027⟩ := pG_4 (cy := cy) (N := N) (T := T) (I := I) (Q := Q) (J := J) (hE.rL hP620020 hn620023 hl620023).1 (hE.rL hP620020 hn620023 hl620023).2
        refine va_get (D := (dC, dI)) (ci := 4) (v := .int (I (ra (5 * P620020 + n620023)) 3)) (C := RX4) (T := TX4) (N := 7) hx hb hts hi4 hown hK hP j620027 hj620027 rfl 3 (by decide) (hts (.fieldLink RX5 146 "TallyLogs$Replica" "hw" "I") (by decide +kernel)) (fun _ h9 => h9) rfl dX5_trim_38 ?_
        refine lv_topi (fun x620028 ex620028 => ?_)
        have sx620028 : x620028 = σ.2.1 (5 * P620020 + n620023) 3 := ex620028.trans (hE.g hP620020 hn620023 hl620023 (by decide) (by decide) (by decide))
        have ux620028 := sx620028
        have tx620028 : x620028.toInt = (σ.2.1 (5 * P620020 + n620023) 3).toInt := congrArg Int32.toInt sx620028
        refine lv_icmp_le (tgt := 46) hx hb dX5_trim_41 (by decide) (fun c620029 => ?_) (fun c620029 => ?_)
        · have kc620029 : xo.toInt ≤ x620028.toInt := by have h9 := c620029; rw [xk_le] at h9; exact h9
          refine lv_aload hx hb dX5_trim_46 (lv_at hl 0 rfl) ?_
          refine lv_iload_n hx hb dX5_trim_48 rfl (lv_at hl 4 rfl) ?_
          obtain ⟨j620030, hj620030⟩ := pG_4 (cy := cy) (N := N) (T := T) (I := I) (Q := Q) (J := J) (hE.rL hP620020 hn620023 hl620023).1 (hE.rL hP620020 hn620023 hl620023).2
          have hFc := pfree hD hS hA
          refine va_callv (va_runV (As := [.int xo]) (rest := []) ⟨hx, hb, hml, hown, hts⟩ (g_X4_dropBefore l dC dI cy v L K N T I Q J s.heap.size pa ra (kxo σ) σ P620020 n620023 xo hE hP620020 hn620023 hl620023 hNl620023) (cwV 1 hts gX5_trim_X4_dropBefore rfl rfl rfl (by decide +kernel) ⟨Nat.le_of_ble_eq_true rfl, Nat.le_of_ble_eq_true rfl⟩) ⟨pw_blind, va_recv hK hP (ci := 4) (q0 := j620030) rfl hj620030, fun U hU hW => ⟨rfl, pw_pre hP hK hN hD hU hW⟩⟩ rfl rfl hl.1 rfl (lv_room (Nat.le_of_ble_eq_true rfl)) dX5_trim_49 ⟨Nat.le_of_ble_eq_true rfl, Nat.le_of_ble_eq_true rfl⟩) hS (fun q _ h => hFc q h) hFc (fun d9 t H1 locs ht hvm hw hB hz1 hk1 hS => ?_)
          obtain ⟨I620031, Q620031, J620031⟩ := d9
          obtain ⟨hP, hK1, hD1⟩ := hB
          rw [ht] at hP
          have hD := hD1.weaken (fun _ _ _ h => hFc _ h)
          generalize H1 = H at hP hS ⊢
          have hP : va_P (dC, dI) vwCl (va_pl L (pF cy K N T I620031 Q620031 J620031)) H := hP
          have hD : va_D A (va_pl L (pF cy K N T I620031 Q620031 J620031)) := hD
          have hR : RS v I620031 Q620031 J620031 I620031 Q620031 J620031 := RS.rf
          obtain ⟨sg620033, esg620033⟩ : ∃ z, z = oDb σ (5 * P620020 + n620023) xo := ⟨_, rfl⟩
          have hE : REP v pa ra L K N T I620031 Q620031 J620031 (kxo σ) sg620033 := by rw [esg620033]; exact hw
          have hC := hE.ct
          have h1sg620033 : sg620033.1 = σ.1 := by rw [esg620033]; exact rfl
          have hl620023 : lvj sg620033 P620020 n620023 := by unfold lvj; rw [h1sg620033]; exact hl620023
          have htP620020 : ¬ sg620033.1 2 P620020 = 0 := by rw [h1sg620033]; exact htP620020
          have hNd620034 : LN (sg620033.2.1 (5 * P620020 + n620023)) := by rw [esg620033]; exact oDb_ln hNl620023 (by omega)
          refine lv_aload hx hb dX5_trim_52 (lv_at hl 0 rfl) ?_
          obtain ⟨j620036, hj620036⟩ := pG_4 (cy := cy) (N := N) (T := T) (I := I620031) (Q := Q620031) (J := J620031) (hE.rL hP620020 hn620023 hl620023).1 (hE.rL hP620020 hn620023 hl620023).2
          refine vp_callSi (W.runV (As := []) (rest := []) ⟨hx, hb, hml, hown, hts⟩ (g_X4_held l dC dI cy v L K N T I620031 Q620031 J620031 pa ra (kxo σ) sg620033 P620020 n620023 hE hP620020 hn620023 hl620023 hNd620034) (cwV 0 hts gX5_trim_X4_held rfl rfl rfl (by decide +kernel) ⟨Nat.le_of_ble_eq_true rfl, Nat.le_of_ble_eq_true rfl⟩) ⟨pb_blind, va_recv hK hP (ci := 4) (q0 := j620036) rfl hj620036, fun U hU hW => ⟨rfl, pb_pre hP hK hN hU hW⟩⟩ rfl rfl hl.1 rfl (lv_room (Nat.le_of_ble_eq_true rfl)) dX5_trim_54 ⟨Nat.le_of_ble_eq_true rfl, Nat.le_of_ble_eq_true rfl⟩) (fun r620035 hr620035 => ?_)
          have e9 : qTr σ xp xo = (sg620033, r620035) := by unfold qTr; rw [if_neg hit620020, cP620020, ho620023]; refine (if_neg (sp_inl_yes (Int32.toInt_toInt64 _) (Int32.toInt_toInt64 _) (by omega))).trans ?_; rw [oTr_eq (by omega) (by omega), ← esg620033, hr620035]
          have hk9 : kxo sg620033 = (kxo σ) := kxo_c (by rw [esg620033, oDb_t]) (fun q => by rw [esg620033, oDb_t])
          exact W.iret (v := r620035) hx hb hr (fun t ht hW => ⟨⟨r620035, (I620031, Q620031, J620031), rfl, ⟨by show REP v pa ra L K N T I620031 Q620031 J620031 (kxo (qTr σ xp xo).1) (qTr σ xp xo).1; rw [e9]; show REP v pa ra L K N T I620031 Q620031 J620031 (kxo sg620033) sg620033; rw [hk9]; exact hE, by show _ = _; rw [e9]⟩, by rw [ht]; exact hP, va_K.moved hW.alike hK, hD⟩, hS.F ht⟩) hS.2.2 dX5_trim_57
        · have kc620029 : ¬ (xo.toInt ≤ x620028.toInt) := by have h9 := c620029; rw [xk_le] at h9; exact h9
          refine lv_iconst (v := (-1)) hx hb dX5_trim_44 (by decide) ?_
          have e9 : qTr σ xp xo = (σ, (-1)) := by unfold qTr; rw [if_neg hit620020, cP620020, ho620023]; exact if_pos (sp_inl_no (Int32.toInt_toInt64 _) (Int32.toInt_toInt64 _) (by omega))
          have hk9 : kxo σ = (kxo σ) := rfl
          exact W.iret (v := (-1)) hx hb hr (fun t ht hW => ⟨⟨(-1), (I, Q, J), rfl, ⟨by show REP v pa ra L K N T I Q J (kxo (qTr σ xp xo).1) (qTr σ xp xo).1; rw [e9]; show REP v pa ra L K N T I Q J (kxo σ) σ; rw [hk9]; exact hE, by show _ = _; rw [e9]⟩, by rw [ht]; exact hP, va_K.moved hW.alike hK, hD⟩, hS.F ht⟩) hS.2.2 dX5_trim_45
set_option maxHeartbeats 4000000 in
set_option maxRecDepth 100000 in
/-- safe, exactly -/
theorem g_X5_safe (l : Launch) (dC : Nat → ClassId) (dI : Nat → Nat → Nat) (cy : Nat → ClassId) (v : Nat → Nat) (L : List Nat) (K N : Nat → Nat) (T : Nat → Nat → Nat) (I : Nat → Nat → Int32) (Q : Nat → Nat → Option Nat) (J : Nat → Nat → Int32) (pa ra : Nat → Nat) (kx : Nat → Prop) (σ : SG) (E : Int) (xp xo : Int32) (hE : REP v pa ra L K N T I Q J kx σ) (hkx : kx = kxo σ) (hSK : SK σ) (hLA : LA E σ) (hE9 : E < 1900) (hB : B5 (σ.1 0 0)) : Met l yX5_safe wsX5_safe ({ frames := 2, cells := 0, slots := 0, locals := 41 }) (va_Pc [.ref (v 0), .int xp, .int xo] (pB dC dI cy L (pF cy K N T I Q J))) (vp_Si (fun r => r = aSf σ xp xo)) 0 0 (fun _ => False) := by
  refine Met.ofW (cc := cX5_safe) (maxL := 5) (ret := (some .int)) (by decide) rfl ?_
  intro p e s m args below meth c s₁ B hml hv
  obtain ⟨rfl, hP, hK, hN⟩ := hv
  have hx := B.exec
  have hb := B.bytes
  have hr := B.returns
  have hts := atoms_spec (ws := wsX5_safe) B.pre
  have hown : s.vm.findClass RX5 = some m.cls := findClass_of_methodNamed B.named
  have hlocks := B.notSynchronized
  have hi5 : ∀ w ∈ wsX50, w ∈ wsX5_safe := by decide +kernel
  have hi4 : ∀ w ∈ wsX40, w ∈ wsX5_safe := by decide +kernel
  have hl := lv_entry ([.ref (v 0), .int xp, .int xo]) (n := 5) (Nat.le_of_ble_eq_true rfl)
  rw [lg_entry_eq]
  generalize (lg_sl ([.ref (v 0), .int xp, .int xo]) ++ List.replicate (5 - (lg_sl ([.ref (v 0), .int xp, .int xo])).length) Slot.unset).toArray = ls at hl ⊢
  have hl : lv_has ls 5 [(0, .ref (v 0)), (1, .int xp), (2, .int xo)] := hl
  have hn28 := hN.1
  have hn30 := hN.2.1
  have hn37 := hN.2.2.1
  have hC := hE.ct
  refine lv_aload_n hx hb dX5_safe_0 rfl (lv_at hl 0 rfl) ?_
  refine lv_iload_n hx hb dX5_safe_1 rfl (lv_at hl 1 rfl) ?_
  obtain ⟨j620038, hj620038⟩ := pG_5 (cy := cy) (N := N) (T := T) (I := I) (Q := Q) (J := J) (hC.at 0 (by decide)) (hC.k 0 (by decide) rfl)
  refine va_csq (W.runV (As := [.int xp]) (rest := []) ⟨hx, hb, hml, hown, hts⟩ (g_X5_partitionAt l dC dI cy v L K N T I Q J pa ra kx σ xp hE) (cwV 1 hts gX5_safe_X5_partitionAt rfl rfl rfl (by decide +kernel) ⟨Nat.le_of_ble_eq_true rfl, Nat.le_of_ble_eq_true rfl⟩) ⟨pb_blind, va_recv hK hP (ci := 5) (q0 := j620038) rfl hj620038, fun U hU hW => ⟨rfl, pb_pre hP hK hN hU hW⟩⟩ rfl rfl hl.1 rfl (lv_room (Nat.le_of_ble_eq_true rfl)) dX5_safe_2 ⟨Nat.le_of_ble_eq_true rfl, Nat.le_of_ble_eq_true rfl⟩) (fun r620037 hr620037 => ?_)
  rcases hr620037 with ⟨rfl, hpn620039⟩ | ⟨P620039, hP620039, eP620039, htP620039, rfl⟩
  · refine W.eq (g2 := F0 m 5 ls [.null]) rfl ?_
    refine lv_astore_nN (lv' := [(3, .null), (0, .ref (v 0)), (1, .int xp), (2, .int xo)]) hx hb dX5_safe_5 rfl hl (by decide) rfl (fun ls hl => ?_)
    refine lv_aload_nN hx hb dX5_safe_6 rfl (lv_at hl 0 rfl) ?_
    refine lv_ifnonnullN hx hb dX5_safe_7 ?_
    refine lv_iconst (v := (-1)) hx hb dX5_safe_10 (by decide) ?_
    exact W.iret (v := (-1)) hx hb hr (fun t ht hW => ⟨(-1), rfl, by show _ = _; unfold aSf; rw [if_pos hpn620039], ht⟩) (fun _ h => by cases h) dX5_safe_11
  · refine W.eq (g2 := F0 m 5 ls [.ref (pa P620039)]) rfl ?_
    have hit620039 := sp_it_y (f := σ.1 2) hP620039 eP620039 htP620039
    have cP620039 := nI_cl (by omega) eP620039
    have hPI620039 := hSK.1 P620039 hP620039
    have hPL620039 := hPI620039.pl htP620039
    have htO620039 := htP620039
    refine lv_astore_n (lv' := [(3, .ref (pa P620039)), (0, .ref (v 0)), (1, .int xp), (2, .int xo)]) hx hb dX5_safe_5 rfl hl (by decide) rfl (fun ls hl => ?_)
    refine lv_aload_n hx hb dX5_safe_6 rfl (lv_at hl 0 rfl) ?_
    refine lv_ifnonnull (tgt := 12) hx hb dX5_safe_7 (by decide) ?_
    refine lv_aload_n hx hb dX5_safe_12 rfl (lv_at hl 0 rfl) ?_
    obtain ⟨j620041, hj620041⟩ := pG_2 (cy := cy) (N := N) (T := T) (I := I) (Q := Q) (J := J) (hE.pL hP620039 htP620039).1 (hE.pL hP620039 htP620039).2
    refine va_csq (W.runV (As := []) (rest := []) ⟨hx, hb, hml, hown, hts⟩ (g_X2_leading l dC dI cy v L K N T I Q J pa ra kx σ P620039 hE hP620039 htP620039) (cwV 0 hts gX5_safe_X2_leading rfl rfl rfl (by decide +kernel) ⟨Nat.le_of_ble_eq_true rfl, Nat.le_of_ble_eq_true rfl⟩) ⟨pb_blind, va_recv hK hP (ci := 2) (q0 := j620041) rfl hj620041, fun U hU hW => ⟨rfl, pb_pre hP hK hN hU hW⟩⟩ rfl rfl hl.1 rfl (lv_room (Nat.le_of_ble_eq_true rfl)) dX5_safe_13 ⟨Nat.le_of_ble_eq_true rfl, Nat.le_of_ble_eq_true rfl⟩) (fun r620040 hr620040 => ?_)
    rcases hr620040 with ⟨rfl, hno620042⟩ | ⟨n620042, hn620042, en620042, hl620042, rfl⟩
    · refine W.eq (g2 := F0 m 16 ls [.null]) rfl ?_
      have ho620042 := hPL620039.no hno620042
      refine lv_astoreN (lv' := [(4, .null), (3, .ref (pa P620039)), (0, .ref (v 0)), (1, .int xp), (2, .int xo)]) hx hb dX5_safe_16 hl (by decide) rfl (fun ls hl => ?_)
      refine lv_aloadN hx hb dX5_safe_18 (lv_at hl 0 rfl) ?_
      refine lv_ifnonnullN hx hb dX5_safe_20 ?_
      refine lv_bipush (v := (-2)) hx hb dX5_safe_23 (by decide) ?_
      exact W.iret (v := (-2)) hx hb hr (fun t ht hW => ⟨(-2), rfl, by show _ = _; unfold aSf; rw [if_neg hit620039, cP620039, ho620042], ht⟩) (fun _ h => by cases h) dX5_safe_25
    · refine W.eq (g2 := F0 m 16 ls [.ref (ra (5 * P620039 + n620042))]) rfl ?_
      have hst620042 := hPL620039.at hn620042 en620042
      have ho620042 := oOw_c hn620042 en620042 hst620042.2
      have hLI620042 := hLA (5 * P620039 + n620042) (by omega)
      have hNl620042 := hLI620042.ln (by omega)
      obtain ⟨q1620042, q2620042, q3620042, q4620042, q5620042, q6620042⟩ := id hLI620042
      have hRF620042 := hSK.2.1 (5 * P620039 + n620042) (by omega)
      have hlO620042 := hl620042
      refine lv_astore (lv' := [(4, .ref (ra (5 * P620039 + n620042))), (3, .ref (pa P620039)), (0, .ref (v 0)), (1, .int xp), (2, .int xo)]) hx hb dX5_safe_16 hl (by decide) rfl (fun ls hl => ?_)
      refine lv_aload hx hb dX5_safe_18 (lv_at hl 0 rfl) ?_
      refine lv_ifnonnull (tgt := 26) hx hb dX5_safe_20 (by decide) ?_
      refine lv_iload_n hx hb dX5_safe_26 rfl (lv_at hl 4 rfl) ?_
      refine lv_aload hx hb dX5_safe_27 (lv_at hl 0 rfl) ?_
      obtain ⟨j620043, hj620043⟩ := pG_4 (cy := cy) (N := N) (T := T) (I := I) (Q := Q) (J := J) (hE.rL hP620039 hn620042 hl620042).1 (hE.rL hP620039 hn620042 hl620042).2
      refine va_get (D := (dC, dI)) (ci := 4) (v := .int (I (ra (5 * P620039 + n620042)) 3)) (C := RX4) (T := TX4) (N := 7) hx hb hts hi4 hown hK hP j620043 hj620043 rfl 3 (by decide) (hts (.fieldLink RX5 146 "TallyLogs$Replica" "hw" "I") (by decide +kernel)) (fun _ h9 => h9) rfl dX5_safe_29 ?_
      refine lv_topi (fun x620044 ex620044 => ?_)
      have sx620044 : x620044 = σ.2.1 (5 * P620039 + n620042) 3 := ex620044.trans (hE.g hP620039 hn620042 hl620042 (by decide) (by decide) (by decide))
      have ux620044 := sx620044
      have tx620044 : x620044.toInt = (σ.2.1 (5 * P620039 + n620042) 3).toInt := congrArg Int32.toInt sx620044
      refine lv_icmp_ge (tgt := 39) hx hb dX5_safe_32 (by decide) (fun c620045 => ?_) (fun c620045 => ?_)
      · have kc620045 : x620044.toInt ≤ xo.toInt := by have h9 := c620045; rw [xk_le] at h9; exact h9
        refine lv_iconst (v := 0) hx hb dX5_safe_39 (by decide) ?_
        exact W.iret (v := 0) hx hb hr (fun t ht hW => ⟨0, rfl, by show _ = _; unfold aSf; rw [if_neg hit620039, cP620039, ho620042]; exact (if_pos (by rw [← sx620044]; exact c620045)).symm, ht⟩) (fun _ h => by cases h) dX5_safe_40
      · have kc620045 : ¬ (x620044.toInt ≤ xo.toInt) := by have h9 := c620045; rw [xk_le] at h9; exact h9
        refine lv_iconst (v := 1) hx hb dX5_safe_35 (by decide) ?_
        refine lv_goto (tgt := 40) hx hb dX5_safe_36 (by decide) ?_
        exact W.iret (v := 1) hx hb hr (fun t ht hW => ⟨1, rfl, by show _ = _; unfold aSf; rw [if_neg hit620039, cP620039, ho620042]; exact (if_neg (fun z => c620045 (by rw [sx620044]; exact z))).symm, ht⟩) (fun _ h => by cases h) dX5_safe_40
