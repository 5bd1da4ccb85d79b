/-- the leader of a partition, if there is one: a log, in step, up -/
def PLd (σ : SG) (P : Nat) : Prop := σ.1 4 P < 0 ∨ ∃ n, n < 5 ∧ σ.1 4 P = nI n ∧ lvj σ P n ∧ bt (σ.1 7 P) n ∧ bt (σ.1 0 0) n
theorem nI_inj5 {a b : Nat} (ha : a < 5) (hb : b < 5) (h : nI a = nI b) : a = b := by
  have := congrArg Int32.toInt h
  rw [nI_toInt (by omega), nI_toInt (by omega)] at this
  omega
theorem PLd.at {σ : SG} {P n : Nat} (h : PLd σ P) (hn : n < 5) (e : σ.1 4 P = nI n) : bt (σ.1 7 P) n ∧ bt (σ.1 0 0) n := by
  rcases h with h | ⟨m, hm, em, hl, h1, h2⟩
  · rw [e] at h; exact absurd h (nI_pos (by omega))
  · obtain rfl := nI_inj5 hn hm (e.symm.trans em)
    exact ⟨h1, h2⟩
theorem PLd.no {σ : SG} {P : Nat} (h : PLd σ P) (hno : ∀ n, n < 5 → σ.1 4 P = nI n → ¬ lvj σ P n) : oOw σ P = none := by
  rcases h with h | ⟨m, hm, em, hl, _⟩
  · unfold oOw; rw [if_pos h]
  · exact absurd hl (hno m hm em)
theorem oOw_c {σ : SG} {P n : Nat} (hn : n < 5) (e : σ.1 4 P = nI n) (hu : bt (σ.1 0 0) n) : oOw σ P = some (5 * P + n) := by
  unfold oOw
  rw [e, if_neg (nI_pos (by omega)), if_neg (fun q => by
    unfold sp_iu at q
    rw [if_pos ⟨by rw [nI_toInt (by omega)]; omega, by rw [nI_toInt (by omega)]; omega, hu⟩] at q
    exact absurd q (by decide)), nI_clamp (by omega)]
/-- raiseHw's least -/
def cLs (σ : SG) (p j : Nat) : Nat → Int32
  | 0 => σ.2.1 j 2
  | n + 1 => if bt (σ.1 7 p) n then imn (cLs σ p j n) (oKn σ p n) else cLs σ p j n
theorem imn_t (x y : Int32) : (imn x y).toInt = min x.toInt y.toInt := xmin_t rfl
theorem cLs_t (σ : SG) (p j : Nat) : ∀ n, (cLs σ p j n).toInt = min (σ.2.1 j 2).toInt (oLs σ p n).toInt := by
  intro n
  induction n with
  | zero =>
    have h := xr_hi (σ.2.1 j 2)
    show (σ.2.1 j 2).toInt = min (σ.2.1 j 2).toInt (2147483647 : Int32).toInt
    rw [show (2147483647 : Int32).toInt = 2147483647 by decide]
    omega
  | succ n ih =>
    show (if _ then _ else _ : Int32).toInt = min _ (if _ then _ else _ : Int32).toInt
    by_cases h : bt (σ.1 7 p) n
    · rw [if_pos h, if_pos h, imn_t, imn_t, ih]; omega
    · rw [if_neg h, if_neg h, ih]
theorem oLs_le (σ : SG) (p : Nat) {m : Nat} (hb : bt (σ.1 7 p) m) : ∀ n, m < n → (oLs σ p n).toInt ≤ (oKn σ p m).toInt := by
  intro n
  induction n with
  | zero => intro h; omega
  | succ n ih =>
    intro h
    show (if _ then _ else _ : Int32).toInt ≤ _
    by_cases q : m = n
    · subst q; rw [if_pos hb, imn_t]; omega
    · have := ih (by omega)
      by_cases h : bt (σ.1 7 p) n
      · rw [if_pos h, imn_t]; omega
      · rw [if_neg h]; exact this
theorem sG_self {σ : SG} {j f : Nat} : sG σ j f (σ.2.1 j f) = σ := by
  unfold sG
  rw [p2_self]
theorem oRi_cl {σ : SG} {p n : Nat} (hn : n < 5) (el : σ.1 4 p = nI n) (hst : bt (σ.1 7 p) n) (hup : bt (σ.1 0 0) n) (hlt : (σ.2.1 (5 * p + n) 2).toInt < 2000) {z : Int32} (hz : z = if σ.2.1 (5 * p + n) 3 < cLs σ p (5 * p + n) 5 then cLs σ p (5 * p + n) 5 else σ.2.1 (5 * p + n) 3) : oRi σ p = sG σ (5 * p + n) 3 z := by
  have k1 := cLs_t σ p (5 * p + n) 5
  have k2 := oLs_le σ p hst 5 hn
  have k3 : oKn σ p n = σ.2.1 (5 * p + n) 2 := by unfold oKn; rw [if_pos el.symm]
  rw [k3] at k2
  have k4 : cLs σ p (5 * p + n) 5 = oLs σ p 5 := by rw [xk_eq, k1]; omega
  have k5 : ¬ oLs σ p 5 = 2147483647 := fun q => by
    rw [q, show (2147483647 : Int32).toInt = 2147483647 by decide] at k2
    omega
  rw [oRi_s (oOw_c hn el hup), if_neg k5]
  rw [k4] at hz
  by_cases q : σ.2.1 (5 * p + n) 3 < oLs σ p 5
  · rw [if_pos q, hz, if_pos q]
  · rw [if_neg q, hz, if_neg q, sG_self]
set_option maxHeartbeats 4000000 in
set_option maxRecDepth 100000 in
/-- Partition.knownEnd, exactly -/
theorem g_X2_knownEnd (l : Launch) (dC : Nat → ClassId) (dI : Nat → Nat → Nat) (cy : Nat → ClassId) (v : Nat → Nat) (L : List Nat) (K N : Nat → Nat) (T : Nat → Nat → Nat) (I : Nat → Nat → Int32) (Q : Nat → Nat → Option Nat) (J : Nat → Nat → Int32) (pa ra : Nat → Nat) (kx : Nat → Prop) (σ : SG) (Gp Gn : Nat) (xn : Int32) (hE : REP v pa ra L K N T I Q J kx σ) (hp : Gp < 4) (ht9 : ¬ σ.1 2 Gp = 0) (hn : Gn < 5) (hxn : xn = nI Gn) (hl9 : lvj σ Gp Gn) (hkn : ¬ σ.1 4 Gp = nI Gn → ¬ kx (5 * Gp + Gn)) : Met l yX2_knownEnd wsX2_knownEnd ({ frames := 1, cells := 0, slots := 0, locals := 21 }) (va_Pc [.ref (pa Gp), .int xn] (pB dC dI cy L (pF cy K N T I Q J))) (vp_Si (fun r => r = oKn σ Gp Gn)) 0 0 (fun _ => False) := by
  refine Met.ofW (cc := cX2_knownEnd) (maxL := 3) (ret := (some .int)) (by decide) rfl ?_
  intro p e s m args below meth c s₁ B hml hv
  obtain ⟨rfl, hP, hK, hN⟩ := hv
  have hx := B.exec
  have hb := B.bytes
  have hr := B.returns
  have hts := atoms_spec (ws := wsX2_knownEnd) B.pre
  have hown : s.vm.findClass RX2 = some m.cls := findClass_of_methodNamed B.named
  have hlocks := B.notSynchronized
  have hi2 : ∀ w ∈ wsX20, w ∈ wsX2_knownEnd := by decide +kernel
  have hi4 : ∀ w ∈ wsX40, w ∈ wsX2_knownEnd := by decide +kernel
  have hl := lv_entry ([.ref (pa Gp), .int xn]) (n := 3) (Nat.le_of_ble_eq_true rfl)
  rw [lg_entry_eq]
  generalize (lg_sl ([.ref (pa Gp), .int xn]) ++ List.replicate (3 - (lg_sl ([.ref (pa Gp), .int xn])).length) Slot.unset).toArray = ls at hl ⊢
  have hl : lv_has ls 3 [(0, .ref (pa Gp)), (1, .int xn)] := hl
  have hn28 := hN.1
  have hn30 := hN.2.1
  have hn37 := hN.2.2.1
  have hC := hE.ct
  refine lv_aload_n hx hb dX2_knownEnd_0 rfl (lv_at hl 0 rfl) ?_
  refine lv_iload_n hx hb dX2_knownEnd_1 rfl (lv_at hl 1 rfl) ?_
  obtain ⟨j550002, hj550002⟩ := pG_2 (cy := cy) (N := N) (T := T) (I := I) (Q := Q) (J := J) (hE.pL hp ht9).1 (hE.pL hp ht9).2
  refine va_csq (W.runV (As := [.int xn]) (rest := []) ⟨hx, hb, hml, hown, hts⟩ (g_X2_replicaAt l dC dI cy v L K N T I Q J pa ra kx σ Gp xn hE hp ht9) (cwV 1 hts gX2_knownEnd_X2_replicaAt rfl rfl rfl (by decide +kernel) ⟨Nat.le_of_ble_eq_true rfl, Nat.le_of_ble_eq_true rfl⟩) ⟨pb_blind, va_recv hK hP (ci := 2) (q0 := j550002) rfl hj550002, fun U hU hW => ⟨rfl, pb_pre hP hK hN hU hW⟩⟩ rfl rfl hl.1 rfl (lv_room (Nat.le_of_ble_eq_true rfl)) dX2_knownEnd_2 ⟨Nat.le_of_ble_eq_true rfl, Nat.le_of_ble_eq_true rfl⟩) (fun r550001 hr550001 => ?_)
  rcases hr550001 with ⟨rfl, hno550003⟩ | ⟨n550003, hn550003, en550003, hl550003, rfl⟩
  · refine W.eq (g2 := F0 m 5 ls [.null]) rfl ?_
    exact absurd hl9 (hno550003 Gn hn hxn)
  · refine W.eq (g2 := F0 m 5 ls [.ref (ra (5 * Gp + n550003))]) rfl ?_
    obtain rfl : Gn = n550003 := nI_inj5 hn hn550003 (hxn.symm.trans en550003)
    refine lv_astore_n (lv' := [(2, .ref (ra (5 * Gp + Gn))), (0, .ref (pa Gp)), (1, .int xn)]) hx hb dX2_knownEnd_5 rfl hl (by decide) rfl (fun ls hl => ?_)
    refine lv_aload_n hx hb dX2_knownEnd_6 rfl (lv_at hl 0 rfl) ?_
    refine lv_ifnonnull (tgt := 12) hx hb dX2_knownEnd_7 (by decide) ?_
    refine lv_iload_n hx hb dX2_knownEnd_12 rfl (lv_at hl 2 rfl) ?_
    refine lv_aload_n hx hb dX2_knownEnd_13 rfl (lv_at hl 1 rfl) ?_
    obtain ⟨j550004, hj550004⟩ := pG_2 (cy := cy) (N := N) (T := T) (I := I) (Q := Q) (J := J) (hE.pL hp ht9).1 (hE.pL hp ht9).2
    refine va_get (D := (dC, dI)) (ci := 2) (v := .int (I (pa Gp) 3)) (C := RX2) (T := TX2) (N := 6) hx hb hts hi2 hown hK hP j550004 hj550004 rfl 3 (by decide) (hts (.fieldLink RX2 34 "TallyLogs$Partition" "leader" "I") (by decide +kernel)) (fun _ h9 => h9) rfl dX2_knownEnd_14 ?_
    refine lv_topi (fun x550005 ex550005 => ?_)
    have sx550005 : x550005 = σ.1 4 Gp := ex550005.trans ((hE.pt Gp hp).2 ht9).2.1.2.2.1
    refine lv_icmp_ne (tgt := 27) hx hb dX2_knownEnd_17 (by decide) (fun c550006 => ?_) (fun c550006 => ?_)
    · have kc550006 : ¬ (xn.toInt = x550005.toInt) := by have h9 := c550006; rw [xk_eq] at h9; exact h9
      refine lv_aload_n hx hb dX2_knownEnd_27 rfl (lv_at hl 0 rfl) ?_
      obtain ⟨j550007, hj550007⟩ := pG_4 (cy := cy) (N := N) (T := T) (I := I) (Q := Q) (J := J) (hE.rL hp hn550003 hl550003).1 (hE.rL hp hn550003 hl550003).2
      refine va_get (D := (dC, dI)) (ci := 4) (v := .int (I (ra (5 * Gp + Gn)) 5)) (C := RX4) (T := TX4) (N := 7) hx hb hts hi4 hown hK hP j550007 hj550007 rfl 5 (by decide) (hts (.fieldLink RX2 51 "TallyLogs$Replica" "known" "I") (by decide +kernel)) (fun _ h9 => h9) rfl dX2_knownEnd_28 ?_
      refine lv_topi (fun x550008 ex550008 => ?_)
      exact W.iret (v := x550008) hx hb hr (fun t ht hW => ⟨x550008, rfl, by show _ = _; rw [oKn, if_neg (fun q => c550006 (by rw [hxn, sx550005]; exact q)), ex550008]; exact (hE.lg Gp Gn hp hn hl9).1 5 (by decide) (by decide) (fun _ => hkn (fun q => c550006 (by rw [hxn, sx550005]; exact q.symm))), ht⟩) (fun _ h => by cases h) dX2_knownEnd_31
    · have kc550006 : xn.toInt = x550005.toInt := by have h9 := c550006; rw [xk_eq] at h9; exact h9
      refine lv_aload_n hx hb dX2_knownEnd_20 rfl (lv_at hl 0 rfl) ?_
      obtain ⟨j550009, hj550009⟩ := pG_4 (cy := cy) (N := N) (T := T) (I := I) (Q := Q) (J := J) (hE.rL hp hn550003 hl550003).1 (hE.rL hp hn550003 hl550003).2
      refine va_get (D := (dC, dI)) (ci := 4) (v := .int (I (ra (5 * Gp + Gn)) 2)) (C := RX4) (T := TX4) (N := 7) hx hb hts hi4 hown hK hP j550009 hj550009 rfl 2 (by decide) (hts (.fieldLink RX2 48 "TallyLogs$Replica" "end" "I") (by decide +kernel)) (fun _ h9 => h9) rfl dX2_knownEnd_21 ?_
      refine lv_topi (fun x550010 ex550010 => ?_)
      have sx550010 : x550010 = σ.2.1 (5 * Gp + Gn) 2 := ex550010.trans (hE.g hp hn550003 hl550003 (by decide) (by decide) (by decide))
      have ux550010 := sx550010
      have tx550010 : x550010.toInt = (σ.2.1 (5 * Gp + Gn) 2).toInt := congrArg Int32.toInt sx550010
      refine lv_goto (tgt := 31) hx hb dX2_knownEnd_24 (by decide) ?_
      exact W.iret (v := x550010) hx hb hr (fun t ht hW => ⟨x550010, rfl, by show _ = _; rw [oKn, if_pos (by rw [← hxn, ← sx550005]; exact c550006)]; exact sx550010, ht⟩) (fun _ h => by cases h) dX2_knownEnd_31
set_option maxHeartbeats 4000000 in
set_option maxRecDepth 100000 in
/-- Partition.raiseHw, exactly -/
theorem g_X2_raiseHw (l : Launch) (dC : Nat → ClassId) (dI : Nat → Nat → Nat) (cy : Nat → ClassId) (v : Nat → Nat) (L : List Nat) (K N : Nat → Nat) (T : Nat → Nat → Nat) (I : Nat → Nat → Int32) (Q : Nat → Nat → Option Nat) (J : Nat → Nat → Int32) (sz : Nat) (pa ra : Nat → Nat) (kx : Nat → Prop) (σ : SG) (Gp : Nat) (hE : REP v pa ra L K N T I Q J kx σ) (hp : Gp < 4) (ht9 : ¬ σ.1 2 Gp = 0) (hPL : PLd σ Gp) (hsm : ∀ m, m < 5 → bt (σ.1 7 Gp) m → lvj σ Gp m) (hkn : ¬ σ.1 4 Gp < 0 → ∀ m, m < 5 → bt (σ.1 7 Gp) m → ¬ σ.1 4 Gp = nI m → ¬ kx (5 * Gp + m)) (hLNs : ∀ m, m < 5 → LN (σ.2.1 (5 * Gp + m))) : Met l yX2_raiseHw wsX2_raiseHw ({ frames := 2, cells := 0, slots := 0, locals := 43 }) (va_Pc [.ref (pa Gp)] (pW dC dI cy L (pF cy K N T I Q J) sz)) (va_Qv (fun d : (Nat → Nat → Int32) × (Nat → Nat → Option Nat) × (Nat → Nat → Int32) => REP v pa ra L K N T d.1 d.2.1 d.2.2 kx (oRi σ Gp)) (fun (d : (Nat → Nat → Int32) × (Nat → Nat → Option Nat) × (Nat → Nat → Int32)) t => va_P (dC, dI) vwCl (va_pl L (pF cy K N T d.1 d.2.1 d.2.2)) t.heap ∧ va_K (dC, dI) vwCl (pTy cy) t ∧ va_D (va_A (va_pl L (pF cy K N T I Q J)) sz) (va_pl L (pF cy K N T d.1 d.2.1 d.2.2))) (va_A (va_pl L (pF cy K N T I Q J)) sz)) 0 0 (va_A (va_pl L (pF cy K N T I Q J)) sz) := by
  refine Met.ofW (cc := cX2_raiseHw) (maxL := 4) (ret := none) (by decide) rfl ?_
  intro p e s m args below meth c s₁ B hml hv
  obtain ⟨rfl, hsz, ⟨hP, hK, hN⟩, hD0⟩ := hv
  have hx := B.exec
  have hb := B.bytes
  have hr := B.returns
  have hts := atoms_spec (ws := wsX2_raiseHw) B.pre
  have hown : s.vm.findClass RX2 = some m.cls := findClass_of_methodNamed B.named
  have hlocks := B.notSynchronized
  have hi2 : ∀ w ∈ wsX20, w ∈ wsX2_raiseHw := by decide +kernel
  have hi4 : ∀ w ∈ wsX40, w ∈ wsX2_raiseHw := by decide +kernel
  have hl := lv_entry ([.ref (pa Gp)]) (n := 4) (Nat.le_of_ble_eq_true rfl)
  rw [lg_entry_eq]
  generalize (lg_sl ([.ref (pa Gp)]) ++ List.replicate (4 - (lg_sl ([.ref (pa Gp)])).length) Slot.unset).toArray = ls at hl ⊢
  have hl : lv_has ls 4 [(0, .ref (pa Gp))] := hl
  subst hsz
  have hD := hD0.self (sz := s.heap.size)
  generalize hAe : va_A (va_pl L (pF cy K N T I Q J)) s.heap.size = A at hD ⊢
  have hA : ∀ q : Nat, s.heap.size ≤ q → A q := fun q h => by rw [← hAe]; exact Or.inr h
  have hS : va_S A s.heap s.heap [] := va_S.rf
  have hR : RS v I Q J I Q J := RS.rf
  have hn28 := hN.1
  have hn30 := hN.2.1
  have hn37 := hN.2.2.1
  have hC := hE.ct
  refine lv_aload_n hx hb dX2_raiseHw_0 rfl (lv_at hl 0 rfl) ?_
  obtain ⟨j550012, hj550012⟩ := pG_2 (cy := cy) (N := N) (T := T) (I := I) (Q := Q) (J := J) (hE.pL hp ht9).1 (hE.pL hp ht9).2
  refine va_csq (W.runV (As := []) (rest := []) ⟨hx, hb, hml, hown, hts⟩ (g_X2_leading l dC dI cy v L K N T I Q J pa ra kx σ Gp hE hp ht9) (cwV 0 hts gX2_raiseHw_X2_leading rfl rfl rfl (by decide +kernel) ⟨Nat.le_of_ble_eq_true rfl, Nat.le_of_ble_eq_true rfl⟩) ⟨pb_blind, va_recv hK hP (ci := 2) (q0 := j550012) rfl hj550012, fun U hU hW => ⟨rfl, pb_pre hP hK hN hU hW⟩⟩ rfl rfl hl.1 rfl (lv_room (Nat.le_of_ble_eq_true rfl)) dX2_raiseHw_1 ⟨Nat.le_of_ble_eq_true rfl, Nat.le_of_ble_eq_true rfl⟩) (fun r550011 hr550011 => ?_)
  rcases hr550011 with ⟨rfl, hno550013⟩ | ⟨n550013, hn550013, en550013, hl550013, rfl⟩
  · refine W.eq (g2 := F0 m 4 ls [.null]) rfl ?_
    refine lv_astore_nN (lv' := [(1, .null), (0, .ref (pa Gp))]) hx hb dX2_raiseHw_4 rfl hl (by decide) rfl (fun ls hl => ?_)
    refine lv_aload_nN hx hb dX2_raiseHw_5 rfl (lv_at hl 0 rfl) ?_
    refine lv_ifnonnullN hx hb dX2_raiseHw_6 ?_
    exact W.vret hx hb hr (fun t ht hW => ⟨⟨(I, Q, J), rfl, by show REP v pa ra L K N T I Q J kx _; rw [oRi_no (hPL.no hno550013)]; exact hE, by rw [ht]; exact hP, va_K.moved hW.alike hK, hD⟩, hS.F ht⟩) hS.2.2 dX2_raiseHw_9
  · refine W.eq (g2 := F0 m 4 ls [.ref (ra (5 * Gp + n550013))]) rfl ?_
    have hst550013 := hPL.at hn550013 en550013
    obtain ⟨q1550013, q2550013, q3550013, q4550013⟩ := hLNs n550013 hn550013
    refine lv_astore_n (lv' := [(1, .ref (ra (5 * Gp + n550013))), (0, .ref (pa Gp))]) hx hb dX2_raiseHw_4 rfl hl (by decide) rfl (fun ls hl => ?_)
    refine lv_aload_n hx hb dX2_raiseHw_5 rfl (lv_at hl 0 rfl) ?_
    refine lv_ifnonnull (tgt := 10) hx hb dX2_raiseHw_6 (by decide) ?_
    refine lv_aload_n hx hb dX2_raiseHw_10 rfl (lv_at hl 0 rfl) ?_
    obtain ⟨j550014, hj550014⟩ := pG_4 (cy := cy) (N := N) (T := T) (I := I) (Q := Q) (J := J) (hE.rL hp hn550013 hl550013).1 (hE.rL hp hn550013 hl550013).2
    refine va_get (D := (dC, dI)) (ci := 4) (v := .int (I (ra (5 * Gp + n550013)) 2)) (C := RX4) (T := TX4) (N := 7) hx hb hts hi4 hown hK hP j550014 hj550014 rfl 2 (by decide) (hts (.fieldLink RX2 48 "TallyLogs$Replica" "end" "I") (by decide +kernel)) (fun _ h9 => h9) rfl dX2_raiseHw_11 ?_
    refine lv_topi (fun x550015 ex550015 => ?_)
    have sx550015 : x550015 = σ.2.1 (5 * Gp + n550013) 2 := ex550015.trans (hE.g hp hn550013 hl550013 (by decide) (by decide) (by decide))
    have ux550015 := sx550015
    have tx550015 : x550015.toInt = (σ.2.1 (5 * Gp + n550013) 2).toInt := congrArg Int32.toInt sx550015
    refine lv_istore_n (lv' := [(2, .int x550015), (1, .ref (ra (5 * Gp + n550013))), (0, .ref (pa Gp))]) hx hb dX2_raiseHw_14 rfl hl (by decide) rfl (fun ls hl => ?_)
    refine lv_iconst (v := 0) hx hb dX2_raiseHw_15 (by decide) ?_
    refine lv_istore_n (lv' := [(3, .int 0), (2, .int x550015), (1, .ref (ra (5 * Gp + n550013))), (0, .ref (pa Gp))]) hx hb dX2_raiseHw_16 rfl hl (by decide) rfl (fun ls hl => ?_)
    refine wq_gen (fun Qz hQz => ?_)
    have hLP550016 : ∀ (n : Nat) (y550017 y550018 : Int32) (ls : Array Slot), (5 - y550017.toInt).toNat < n → 0 ≤ y550017.toInt → (y550017.toInt ≤ 5 ∧ y550018 = cLs σ Gp (5 * Gp + n550013) y550017.toNatClampNeg) → lv_has ls 4 [(3, .int y550017), (2, .int y550018), (1, .ref (ra (5 * Gp + n550013))), (0, .ref (pa Gp))] → W p l e (headSpec wsX2_raiseHw ({ frames := 2, cells := 0, slots := 0, locals := 43 })).room s m ([.ref (pa Gp)] : List Value).toArray below meth c s.heap [] 0 0 Qz (F0 m 17 ls []) := by
      intro n
      induction n with
      | zero => intro y550017 y550018 ls hms; exact absurd hms (Nat.not_lt_zero _)
      | succ n ih550016 =>
        intro y550017 y550018 ls hms hnn550016 hiv550016 hl
        obtain ⟨hiw, _⟩ := id hiv550016
        refine lv_iload_n hx hb dX2_raiseHw_17 rfl (lv_at hl 0 rfl) ?_
        refine lv_iconst (v := 5) hx hb dX2_raiseHw_18 (by decide) ?_
        refine lv_icmp_ge (tgt := 49) hx hb dX2_raiseHw_19 (by decide) (fun c550019 => ?_) (fun c550019 => ?_)
        · have kc550019 : 5 ≤ y550017.toInt := by have h9 := c550019; rw [xk_le, xk_5] at h9; exact h9
          refine lv_aload_n hx hb dX2_raiseHw_49 rfl (lv_at hl 2 rfl) ?_
          refine lv_aload_n hx hb dX2_raiseHw_50 rfl (lv_at hl 2 rfl) ?_
          obtain ⟨j550020, hj550020⟩ := pG_4 (cy := cy) (N := N) (T := T) (I := I) (Q := Q) (J := J) (hE.rL hp hn550013 hl550013).1 (hE.rL hp hn550013 hl550013).2
          refine va_get (D := (dC, dI)) (ci := 4) (v := .int (I (ra (5 * Gp + n550013)) 3)) (C := RX4) (T := TX4) (N := 7) hx hb hts hi4 hown hK hP j550020 hj550020 rfl 3 (by decide) (hts (.fieldLink RX2 66 "TallyLogs$Replica" "hw" "I") (by decide +kernel)) (fun _ h9 => h9) rfl dX2_raiseHw_51 ?_
          refine lv_topi (fun x550021 ex550021 => ?_)
          have sx550021 : x550021 = σ.2.1 (5 * Gp + n550013) 3 := ex550021.trans (hE.g hp hn550013 hl550013 (by decide) (by decide) (by decide))
          have ux550021 := sx550021
          have tx550021 : x550021.toInt = (σ.2.1 (5 * Gp + n550013) 3).toInt := congrArg Int32.toInt sx550021
          refine lv_iload_n hx hb dX2_raiseHw_54 rfl (lv_at hl 1 rfl) ?_
          refine va_mmax hx hb (by rw [hml]; exact hl.1.symm) hown (hts (.methodLink RX2 69 Lib.Math.max.name) (by decide +kernel)) (hts (.static Lib.Math.max.name) (by decide +kernel)) (hts (.initialized "java/lang/Math") (by decide +kernel)) (hts _ (List.mem_of_getElem? (i := 10) rfl)) (Nat.le_of_ble_eq_true rfl) (Nat.le_of_ble_eq_true rfl) (Nat.le_of_ble_eq_true rfl) (Nat.le_of_ble_eq_true rfl) dX2_raiseHw_55 ?_
          refine lv_topi (fun z550022 ez550022 => ?_)
          have tz550022 : z550022.toInt = max x550021.toInt y550018.toInt := xmax_t ez550022
          obtain ⟨j550023, hj550023⟩ := pG_4 (cy := cy) (N := N) (T := T) (I := I) (Q := Q) (J := J) (hE.rL hp hn550013 hl550013).1 (hE.rL hp hn550013 hl550013).2
          have hDo := hD
          refine va_put (D := (dC, dI)) (ci := 4) (v := .int z550022) (ty := .int) (C := RX4) (T := TX4) (N := 7) hx hb hts hi4 tyX4 tyX4_ok nmX4 hown hK hP hD hS j550023 hj550023 rfl 3 (by decide) (hts (.fieldLink RX2 66 "TallyLogs$Replica" "hw" "I") (by decide +kernel)) (fun _ h9 => h9) rfl (by decide +kernel) rfl rfl (Nat.le_of_ble_eq_true rfl) dX2_raiseHw_58 (fun H locs hP hD hS => ?_)
          have hP := Eq.mp (congrArg (fun w => va_P (dC, dI) vwCl w H) (pP_4_3 (x := z550022) hDo (hE.rL hp hn550013 hl550013).1 (hE.rL hp hn550013 hl550013).2 hj550023)) hP
          obtain ⟨I550024, eI550024⟩ : ∃ z, z = p2 I (ra (5 * Gp + n550013)) 3 z550022 := ⟨_, rfl⟩
          rw [← eI550024] at hP
          have hR : RS v I550024 Q J I550024 Q J := RS.rf
          obtain ⟨sg550025, esg550025⟩ : ∃ z, z = sG σ (5 * Gp + n550013) 3 z550022 := ⟨_, rfl⟩
          have hE : REP v pa ra L K N T I550024 Q J kx sg550025 := by rw [esg550025, eI550024]; exact hE.wr hp hn550013 hl550013 (by decide) (by decide) (fun _ _ z => z)
          have hl550013 : lvj sg550025 Gp n550013 := by rw [esg550025]; exact hl550013
          have ht9 : ¬ sg550025.1 2 Gp = 0 := by rw [esg550025]; exact ht9
          have hC : CT v L K N T I550024 Q := by rw [eI550024]; exact hC.pi (by rw [(hE.rL hp hn550013 hl550013).2]; decide)
          have hD : va_D A (va_pl L (pF cy K N T I550024 Q J)) := pD hDo
          rw [hQz]
          exact W.vret hx hb hr (fun t ht hW => ⟨⟨(I550024, Q, J), rfl, by show REP v pa ra L K N T I550024 Q J kx _; have h9 : oRi σ Gp = sg550025 := (by rw [oRi_cl hn550013 en550013 hst550013.1 hst550013.2 q4550013 (z := z550022) (by rw [ez550022, sx550021, hiv550016.2, show y550017.toNatClampNeg = 5 by rw [clT]; omega]), esg550025]); rw [h9]; exact hE, by rw [ht]; exact hP, va_K.moved hW.alike hK, hD⟩, hS.F ht⟩) hS.2.2 dX2_raiseHw_61
        · have kc550019 : ¬ (5 ≤ y550017.toInt) := by have h9 := c550019; rw [xk_le, xk_5] at h9; exact h9
          refine lv_aload_n hx hb dX2_raiseHw_22 rfl (lv_at hl 3 rfl) ?_
          obtain ⟨j550026, hj550026⟩ := pG_2 (cy := cy) (N := N) (T := T) (I := I) (Q := Q) (J := J) (hE.pL hp ht9).1 (hE.pL hp ht9).2
          refine va_get (D := (dC, dI)) (ci := 2) (v := .int (I (pa Gp) 5)) (C := RX2) (T := TX2) (N := 6) hx hb hts hi2 hown hK hP j550026 hj550026 rfl 5 (by decide) (hts (.fieldLink RX2 27 "TallyLogs$Partition" "inStep" "I") (by decide +kernel)) (fun _ h9 => h9) rfl dX2_raiseHw_23 ?_
          refine lv_topi (fun x550027 ex550027 => ?_)
          have sx550027 : x550027 = σ.1 7 Gp := ex550027.trans ((hE.pt Gp hp).2 ht9).2.1.2.2.2.2
          refine lv_iload_n hx hb dX2_raiseHw_26 rfl (lv_at hl 0 rfl) ?_
          refine vp_callSi (va_Run.run (va_runSN (As := [.int x550027, .int y550017]) (rest := []) ⟨hx, hb, hml, hown, hts⟩ (c_X5_contains l x550027 y550017) ⟨va_cnB 2 hts gX2_raiseHw_X5_contains_n37 rfl rfl rfl hn37 (hts (.initialized RX5) (by decide +kernel)) (by decide +kernel) ⟨Nat.le_of_ble_eq_true rfl, Nat.le_of_ble_eq_true rfl⟩, hts (.static yX5_contains) (by decide +kernel), trivial⟩ preEq rfl rfl hl.1 rfl (lv_room (Nat.le_of_ble_eq_true rfl)) dX2_raiseHw_27 ⟨Nat.le_of_ble_eq_true rfl, Nat.le_of_ble_eq_true rfl⟩)) (fun r550028 hr550028 => ?_)
          refine lv_if_eq (tgt := 43) hx hb dX2_raiseHw_30 (by decide) (fun c550029 => ?_) (fun c550029 => ?_)
          · have kc550029 : r550028.toInt = 0 := by have h9 := c550029; rw [xk_eq, xk_0] at h9; exact h9
            obtain ⟨v550030, ev550030⟩ : ∃ y : Int32, y = y550017 + Int32.ofInt 1 := ⟨_, rfl⟩
            refine lv_iinc (v := v550030) (lv' := [(3, .int v550030), (2, .int y550018), (1, .ref (ra (5 * Gp + n550013))), (0, .ref (pa Gp))]) hx hb dX2_raiseHw_43 hl (k := 0) rfl ev550030.symm (by decide) rfl (fun ls hl => ?_)
            refine lv_goto (tgt := 17) hx hb dX2_raiseHw_46 (by decide) ?_
            have tv550030 : v550030.toInt = y550017.toInt + 1 := by rw [ev550030, show y550017 + Int32.ofInt 1 = y550017 + 1 from rfl]; exact xinc (y := (5 : Int32)) (by rw [xk_lt, xk_5]; omega)
            exact ih550016 _ _ _ (by omega) (by omega) (⟨by omega, by have ek9 : y550017 = nI y550017.toNatClampNeg := xnI (n := 5) (xin_of (by omega) (by omega)) (by decide); have hb9 := sp_cn8_0 (mb := σ.1 7 Gp) (k := y550017.toNatClampNeg) (by rw [clT]; omega) (by rw [← ek9, ← sx550027, ← hr550028]; exact c550029); rw [clsucc (y := y550017) (by omega) tv550030]; show _ = if _ then _ else _; rw [if_neg hb9]; exact hiv550016.2⟩)  (lv_sub hl [0, 1, 2, 3] rfl)
          · have kc550029 : ¬ (r550028.toInt = 0) := by have h9 := c550029; rw [xk_eq, xk_0] at h9; exact h9
            have ek550031 : y550017 = nI y550017.toNatClampNeg := xnI (n := 5) (xin_of (by omega) (by omega)) (by decide)
            have hy550031 : y550017.toNatClampNeg < 5 := by rw [clT]; omega
            have hbt550031 : bt (σ.1 7 Gp) y550017.toNatClampNeg := sp_cn8_1 (by omega) (by rw [← ek550031, ← sx550027, ← hr550028]; exact c550029)
            refine lv_iload_n hx hb dX2_raiseHw_33 rfl (lv_at hl 1 rfl) ?_
            refine lv_aload_n hx hb dX2_raiseHw_34 rfl (lv_at hl 3 rfl) ?_
            refine lv_iload_n hx hb dX2_raiseHw_35 rfl (lv_at hl 0 rfl) ?_
            obtain ⟨j550033, hj550033⟩ := pG_2 (cy := cy) (N := N) (T := T) (I := I) (Q := Q) (J := J) (hE.pL hp ht9).1 (hE.pL hp ht9).2
            refine vp_callSi (W.runV (As := [.int y550017]) (rest := [.int y550018]) ⟨hx, hb, hml, hown, hts⟩ (g_X2_knownEnd l dC dI cy v L K N T I Q J pa ra kx σ Gp y550017.toNatClampNeg y550017 hE hp ht9 hy550031 ek550031 (hsm _ hy550031 hbt550031) (hkn (by rw [en550013]; exact nI_pos (by omega)) _ hy550031 hbt550031)) (cwV 1 hts gX2_raiseHw_X2_knownEnd rfl rfl rfl (by decide +kernel) ⟨Nat.le_of_ble_eq_true rfl, Nat.le_of_ble_eq_true rfl⟩) ⟨pb_blind, va_recv hK hP (ci := 2) (q0 := j550033) rfl hj550033, fun U hU hW => ⟨rfl, pb_pre hP hK hN hU hW⟩⟩ rfl rfl hl.1 rfl (lv_room (Nat.le_of_ble_eq_true rfl)) dX2_raiseHw_36 ⟨Nat.le_of_ble_eq_true rfl, Nat.le_of_ble_eq_true rfl⟩) (fun r550032 hr550032 => ?_)
            refine va_mmin hx hb (by rw [hml]; exact hl.1.symm) hown (hts (.methodLink RX2 61 Lib.Math.min.name) (by decide +kernel)) (hts (.static Lib.Math.min.name) (by decide +kernel)) (hts (.initialized "java/lang/Math") (by decide +kernel)) (hts _ (List.mem_of_getElem? (i := 6) rfl)) (Nat.le_of_ble_eq_true rfl) (Nat.le_of_ble_eq_true rfl) (Nat.le_of_ble_eq_true rfl) (Nat.le_of_ble_eq_true rfl) dX2_raiseHw_39 ?_
            refine lv_topi (fun z550034 ez550034 => ?_)
            have tz550034 : z550034.toInt = min y550018.toInt r550032.toInt := xmin_t ez550034
            refine lv_istore_n (lv' := [(2, .int z550034), (3, .int y550017), (1, .ref (ra (5 * Gp + n550013))), (0, .ref (pa Gp))]) hx hb dX2_raiseHw_42 rfl hl (by decide) rfl (fun ls hl => ?_)
            obtain ⟨v550035, ev550035⟩ : ∃ y : Int32, y = y550017 + Int32.ofInt 1 := ⟨_, rfl⟩
            refine lv_iinc (v := v550035) (lv' := [(3, .int v550035), (2, .int z550034), (1, .ref (ra (5 * Gp + n550013))), (0, .ref (pa Gp))]) hx hb dX2_raiseHw_43 hl (k := 1) rfl ev550035.symm (by decide) rfl (fun ls hl => ?_)
            refine lv_goto (tgt := 17) hx hb dX2_raiseHw_46 (by decide) ?_
            have tv550035 : v550035.toInt = y550017.toInt + 1 := by rw [ev550035, show y550017 + Int32.ofInt 1 = y550017 + 1 from rfl]; exact xinc (y := (5 : Int32)) (by rw [xk_lt, xk_5]; omega)
            exact ih550016 _ _ _ (by omega) (by omega) (⟨by omega, by rw [clsucc (y := y550017) (by omega) tv550035]; show _ = if _ then imn _ _ else _; rw [if_pos hbt550031, ← hiv550016.2, ← hr550032, ez550034, imn]⟩)  (lv_sub hl [0, 1, 2, 3] rfl)
    exact hLP550016 _ _ _ _ (Nat.lt_succ_self _) (by decide) (⟨by decide, by rw [sx550015, cl_0]; rfl⟩)  (lv_sub hl [0, 1, 2, 3] rfl)
