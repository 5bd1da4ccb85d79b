section XK
variable {u u' : Int32} {σ σ' τ : SG} {p j k n : Nat} {E : Int}
theorem oRs_1 : ∀ k, (oRs σ n k).1 = σ.1 := by
  intro k
  induction k with
  | zero => rfl
  | succ k ih => exact ih
theorem rs_kx {x : Int32} (hn : n < 5) (hx : x = σ.1 0 0 ||| (1 <<< (nI n &&& 31))) (eτ : τ = sA σ 0 0 x) : ∀ p m, p < 4 → m < 5 → lvj (oRs τ n k) p m → (kxo σ (5 * p + m) ∧ ¬ ((5 * p + m) % 5 = n ∧ (5 * p + m) / 5 < 4)) → kxo (oRs τ n k) (5 * p + m) := fun p m hp hm _ z => by
  unfold kxo at z ⊢
  rw [show (5 * p + m) / 5 = p by omega, show (5 * p + m) % 5 = m by omega] at z ⊢
  rw [oRs_1, eτ, sA_q (i := 4) (by omega), sA_s, hx]
  rcases z.1 with y | y
  · exact Or.inl y
  · exact Or.inr (fun w => by
      rcases (bt_set hm hn).mp w with w | w
      · exact y w
      · exact z.2 ⟨w, hp⟩)
theorem oFa_eq {m : Nat} (hp : p < 4) (hn : n < 5) (hm : m < 5) (hne : ¬ n = m) (hA : LA E σ) (hE : E < 2000) : oFa σ (5 * p + n) (5 * p + m) p (nI n) = oRi (oF9 σ p n m) p := by
  unfold oFa
  rw [oF1_eq (hA (5 * p + n) (by omega)) (hA (5 * p + m) (by omega)) (by omega) hE]
theorem f9_rh (h : SK σ) {m : Nat} (hp : p < 4) (hn : n < 5) (hm : m < 5) (hne : ¬ n = m) (ht : ¬ σ.1 2 p = 0) (hA : LA E σ) (hE : E < 2000) (hb : bt (σ.1 3 p) n) (hup : bt (σ.1 0 0) n) (hl : ¬ σ.1 4 p < 0) : RHp (kxo σ) (oF9 σ p n m) p := by
  have s9 := h.f9 hp hn hm hne ht hA hE hb hup hl
  obtain ⟨t1, _, t3, t4, _, _⟩ := oF9_n (σ := σ) (p := p) (n := n) (m := m) hp hn hm hne hA hE
  have e1 : kxo (oF9 σ p n m) = kxo σ := kxo_c (t1 0 0 (by omega)) (fun q => t1 4 q (by omega))
  rw [← e1]
  refine (s9.1 p hp).rh (by rw [t1 2 p (by omega)]; exact ht) (fun k hk => ?_)
  by_cases e : k = n
  · rw [e]; exact t4
  · rw [t3 _ (by omega)]; exact (hA (5 * p + k) (by omega)).ln hE
theorem f9_num {m : Nat} (hp : p < 4) (hn : n < 5) (hm : m < 5) (hne : ¬ n = m) (hA : LA E σ) (hE : E < 2000) : LN ((oRi (oF9 σ p n m) p).2.1 (5 * p + n)) ∧ LN ((oRi (oF9 σ p n m) p).2.1 (5 * p + m)) ∧ ((oRi (oF9 σ p n m) p).2.1 (5 * p + m) 1).toInt ≤ ((oRi (oF9 σ p n m) p).2.1 (5 * p + n) 2).toInt ∧ ((oRi (oF9 σ p n m) p).2.1 (5 * p + n) 4).toInt ≤ ((oRi (oF9 σ p n m) p).2.1 (5 * p + n) 2).toInt := by
  obtain ⟨_, _, t3, t4, t5, t6⟩ := oF9_n (σ := σ) (p := p) (n := n) (m := m) hp hn hm hne hA hE
  have g1 : ∀ a f, ¬ f = 3 → (oRi (oF9 σ p n m) p).2.1 a f = (oF9 σ p n m).2.1 a f := fun a f hf => oRi_g hf
  refine ⟨?_, ?_, ?_, ?_⟩
  · unfold LN; rw [g1 _ 1 (by decide), g1 _ 2 (by decide)]; exact t4
  · unfold LN
    rw [g1 _ 1 (by decide), g1 _ 2 (by decide), t3 _ (by omega)]
    exact (hA (5 * p + m) (by omega)).ln hE
  · rw [g1 _ 1 (by decide), g1 _ 2 (by decide), t3 _ (by omega)]; exact t5
  · rw [g1 _ 4 (by decide), g1 _ 2 (by decide)]; exact t6
theorem oA2_1 {F l : Nat} : (oA2 (oA1 σ F l) F l).1 = σ.1 := by
  unfold oA2 oA1
  show (if _ then _ else _ : SG).1 = _
  split
  · rfl
  · rfl
end XK
set_option maxHeartbeats 4000000 in
set_option maxRecDepth 100000 in
/-- restart, exactly -/
theorem g_X5_restart (l : Launch) (dC : Nat → ClassId) (dI : Nat → Nat → Nat) (cy : Nat → ClassId) (v : Nat → Nat) (L : List Nat) (K N : Nat → Nat) (T : Nat → Nat → Nat) (I : Nat → Nat → Int32) (Q : Nat → Nat → Option Nat) (J : Nat → Nat → Int32) (sz : Nat) (pa ra : Nat → Nat) (kx : Nat → Prop) (σ : SG) (E : Int) (xn : Int32) (hE : REP v pa ra L K N T I Q J kx σ) (hkx : kx = kxo σ) (hSK : SK σ) (hLA : LA E σ) (hE9 : E < 1900) (hB : B5 (σ.1 0 0)) : Met l yX5_restart wsX5_restart ({ frames := 2, cells := 0, slots := 0, locals := 44 }) (va_Pc [.ref (v 0), .int xn] (pW dC dI cy L (pF cy K N T I Q J) sz)) (va_Qi (fun (r : Int32) (d : (Nat → Nat → Int32) × (Nat → Nat → Option Nat) × (Nat → Nat → Int32)) => (REP v pa ra L K N T d.1 d.2.1 d.2.2 (kxo (qRs σ xn).1) (qRs σ xn).1) ∧ r = (qRs σ xn).2) (fun (d : (Nat → Nat → Int32) × (Nat → Nat → Option Nat) × (Nat → Nat → Int32)) t => va_P (dC, dI) vwCl (va_pl L (pF cy K N T d.1 d.2.1 d.2.2)) t.heap ∧ va_K (dC, dI) vwCl (pTy cy) t ∧ va_D (va_A (va_pl L (pF cy K N T I Q J)) sz) (va_pl L (pF cy K N T d.1 d.2.1 d.2.2))) (va_A (va_pl L (pF cy K N T I Q J)) sz)) 0 0 (va_A (va_pl L (pF cy K N T I Q J)) sz) := by
  refine Met.ofW (cc := cX5_restart) (maxL := 4) (ret := (some .int)) (by decide) rfl ?_
  intro p e s m args below meth c s₁ B hml hv
  obtain ⟨rfl, hsz, ⟨hP, hK, hN⟩, hD0⟩ := hv
  have hx := B.exec
  have hb := B.bytes
  have hr := B.returns
  have hts := atoms_spec (ws := wsX5_restart) B.pre
  have hown : s.vm.findClass RX5 = some m.cls := findClass_of_methodNamed B.named
  have hlocks := B.notSynchronized
  have hi5 : ∀ w ∈ wsX50, w ∈ wsX5_restart := by decide +kernel
  have hi4 : ∀ w ∈ wsX40, w ∈ wsX5_restart := by decide +kernel
  have hl := lv_entry ([.ref (v 0), .int xn]) (n := 4) (Nat.le_of_ble_eq_true rfl)
  rw [lg_entry_eq]
  generalize (lg_sl ([.ref (v 0), .int xn]) ++ List.replicate (4 - (lg_sl ([.ref (v 0), .int xn])).length) Slot.unset).toArray = ls at hl ⊢
  have hl : lv_has ls 4 [(0, .ref (v 0)), (1, .int xn)] := hl
  subst hsz
  have hD := hD0.self (sz := s.heap.size)
  generalize hAe : va_A (va_pl L (pF cy K N T I Q J)) s.heap.size = A at hD ⊢
  have hA : ∀ q : Nat, s.heap.size ≤ q → A q := fun q h => by rw [← hAe]; exact Or.inr h
  have hS : va_S A s.heap s.heap [] := va_S.rf
  have hR : RS v I Q J I Q J := RS.rf
  have hn28 := hN.1
  have hn30 := hN.2.1
  have hn37 := hN.2.2.1
  have hC := hE.ct
  subst hkx
  refine lv_iload_n hx hb dX5_restart_0 rfl (lv_at hl 1 rfl) ?_
  refine lv_if_lt (tgt := 20) hx hb dX5_restart_1 (by decide) (fun c640001 => ?_) (fun c640001 => ?_)
  · have kc640001 : xn.toInt < 0 := by have h9 := c640001; rw [xk_lt, xk_0] at h9; exact h9
    refine lv_iconst (v := (-1)) hx hb dX5_restart_20 (by decide) ?_
    have e9 : qRs σ xn = (σ, (-1)) := by unfold qRs; rw [if_pos (sp_inl_no (i := 0) (j := 4) (by decide) (by decide) (by omega))]
    have hk9 : kxo σ = (kxo σ) := rfl
    exact W.iret (v := (-1)) hx hb hr (fun t ht hW => ⟨⟨(-1), (I, Q, J), rfl, ⟨by show REP v pa ra L K N T I Q J (kxo (qRs σ xn).1) (qRs σ xn).1; rw [e9]; show REP v pa ra L K N T I Q J (kxo σ) σ; rw [hk9]; exact hE, by show _ = _; rw [e9]⟩, by rw [ht]; exact hP, va_K.moved hW.alike hK, hD⟩, hS.F ht⟩) hS.2.2 dX5_restart_21
  · have kc640001 : ¬ (xn.toInt < 0) := by have h9 := c640001; rw [xk_lt, xk_0] at h9; exact h9
    refine lv_iload_n hx hb dX5_restart_4 rfl (lv_at hl 1 rfl) ?_
    refine lv_iconst (v := 5) hx hb dX5_restart_5 (by decide) ?_
    refine lv_icmp_ge (tgt := 20) hx hb dX5_restart_6 (by decide) (fun c640002 => ?_) (fun c640002 => ?_)
    · have kc640002 : 5 ≤ xn.toInt := by have h9 := c640002; rw [xk_le, xk_5] at h9; exact h9
      refine lv_iconst (v := (-1)) hx hb dX5_restart_20 (by decide) ?_
      have e9 : qRs σ xn = (σ, (-1)) := by unfold qRs; rw [if_pos (sp_inl_no (i := 0) (j := 4) (by decide) (by decide) (by omega))]
      have hk9 : kxo σ = (kxo σ) := rfl
      exact W.iret (v := (-1)) hx hb hr (fun t ht hW => ⟨⟨(-1), (I, Q, J), rfl, ⟨by show REP v pa ra L K N T I Q J (kxo (qRs σ xn).1) (qRs σ xn).1; rw [e9]; show REP v pa ra L K N T I Q J (kxo σ) σ; rw [hk9]; exact hE, by show _ = _; rw [e9]⟩, by rw [ht]; exact hP, va_K.moved hW.alike hK, hD⟩, hS.F ht⟩) hS.2.2 dX5_restart_21
    · have kc640002 : ¬ (5 ≤ xn.toInt) := by have h9 := c640002; rw [xk_le, xk_5] at h9; exact h9
      refine lv_aload_n hx hb dX5_restart_9 rfl (lv_at hl 0 rfl) ?_
      obtain ⟨j640003, hj640003⟩ := pG_5 (cy := cy) (N := N) (T := T) (I := I) (Q := Q) (J := J) (hC.at 0 (by decide)) (hC.k 0 (by decide) rfl)
      refine va_get (D := (dC, dI)) (ci := 5) (v := .int (I (v 0) 3)) (C := RX5) (T := TX5) (N := 6) hx hb hts hi5 hown hK hP j640003 hj640003 rfl 3 (by decide) (hts (.fieldLink RX5 27 "TallyLogs" "up" "I") (by decide +kernel)) (fun _ h9 => h9) rfl dX5_restart_10 ?_
      refine lv_topi (fun x640004 ex640004 => ?_)
      have sx640004 : x640004 = σ.1 0 0 := ex640004.trans hE.up
      refine lv_iload_n hx hb dX5_restart_13 rfl (lv_at hl 1 rfl) ?_
      refine vp_callSi (W.runS (As := [.int x640004, .int xn]) (rest := []) ⟨hx, hb, hml, hown, hts⟩ (c_X5_contains l x640004 xn) (va_cwS 2 hts gX5_restart_X5_contains rfl rfl rfl (by decide +kernel) ⟨Nat.le_of_ble_eq_true rfl, Nat.le_of_ble_eq_true rfl⟩) preEq rfl rfl hl.1 rfl (lv_room (Nat.le_of_ble_eq_true rfl)) dX5_restart_14 ⟨Nat.le_of_ble_eq_true rfl, Nat.le_of_ble_eq_true rfl⟩) (fun r640005 hr640005 => ?_)
      refine lv_if_eq (tgt := 22) hx hb dX5_restart_17 (by decide) (fun c640006 => ?_) (fun c640006 => ?_)
      · have kc640006 : r640005.toInt = 0 := by have h9 := c640006; rw [xk_eq, xk_0] at h9; exact h9
        refine lv_aload_n hx hb dX5_restart_22 rfl (lv_at hl 0 rfl) ?_
        refine lv_dup hx hb dX5_restart_23 rfl ?_
        obtain ⟨j640007, hj640007⟩ := pG_5 (cy := cy) (N := N) (T := T) (I := I) (Q := Q) (J := J) (hC.at 0 (by decide)) (hC.k 0 (by decide) rfl)
        refine va_get (D := (dC, dI)) (ci := 5) (v := .int (I (v 0) 3)) (C := RX5) (T := TX5) (N := 6) hx hb hts hi5 hown hK hP j640007 hj640007 rfl 3 (by decide) (hts (.fieldLink RX5 27 "TallyLogs" "up" "I") (by decide +kernel)) (fun _ h9 => h9) rfl dX5_restart_24 ?_
        refine lv_topi (fun x640008 ex640008 => ?_)
        have sx640008 : x640008 = σ.1 0 0 := ex640008.trans hE.up
        refine lv_iconst (v := 1) hx hb dX5_restart_27 (by decide) ?_
        refine lv_iload_n hx hb dX5_restart_28 rfl (lv_at hl 1 rfl) ?_
        refine lv_ishl hx hb dX5_restart_29 ?_
        refine lv_topi (fun v640009 ev640009 => ?_)
        refine lv_ior hx hb dX5_restart_30 ?_
        refine lv_topi (fun v640010 ev640010 => ?_)
        obtain ⟨j640011, hj640011⟩ := pG_5 (cy := cy) (N := N) (T := T) (I := I) (Q := Q) (J := J) (hC.at 0 (by decide)) (hC.k 0 (by decide) rfl)
        have hDo := hD
        refine va_put (D := (dC, dI)) (ci := 5) (v := .int v640010) (ty := .int) (C := RX5) (T := TX5) (N := 6) hx hb hts hi5 tyX5 tyX5_ok nmX5 hown hK hP hD hS j640011 hj640011 rfl 3 (by decide) (hts (.fieldLink RX5 27 "TallyLogs" "up" "I") (by decide +kernel)) (fun _ h9 => h9) rfl (by decide +kernel) rfl rfl (Nat.le_of_ble_eq_true rfl) dX5_restart_31 (fun H locs hP hD hS => ?_)
        have hP := Eq.mp (congrArg (fun w => va_P (dC, dI) vwCl w H) (pP_5_3 (x := v640010) hDo (hC.at 0 (by decide)) (hC.k 0 (by decide) rfl) hj640011)) hP
        obtain ⟨I640012, eI640012⟩ : ∃ z, z = p2 I (v 0) 3 v640010 := ⟨_, rfl⟩
        rw [← eI640012] at hP
        have hR : RS v I640012 Q J I640012 Q J := RS.rf
        obtain ⟨sg640013, esg640013⟩ : ∃ z, z = sA σ 0 0 v640010 := ⟨_, rfl⟩
        have hE : REP v pa ra L K N T I640012 Q J (kxo σ) sg640013 := by rw [esg640013, eI640012]; exact hE.wo (f := 0) (by decide)
        have hC : CT v L K N T I640012 Q := by rw [eI640012]; exact hC.pi (by rw [(hC.k 0 (by decide) rfl)]; decide)
        have hD : va_D A (va_pl L (pF cy K N T I640012 Q J)) := pD hDo
        refine lv_iconst (v := 0) hx hb dX5_restart_34 (by decide) ?_
        refine lv_istore_n (lv' := [(2, .int 0), (0, .ref (v 0)), (1, .int xn)]) hx hb dX5_restart_35 rfl hl (by decide) rfl (fun ls hl => ?_)
        obtain ⟨Gn, hGn, eGn⟩ := vp_in_of (x := xn) (n := 5) (xin_of (by omega) (by omega)) (by decide)
        have huv : v640010 = σ.1 0 0 ||| (1 <<< (nI Gn &&& 31)) := by rw [ev640010, sx640008, ev640009, eGn]
        have hE : REP v pa ra L K N T I640012 Q J (fun i => kxo σ i ∧ ¬ (i % 5 = Gn ∧ i / 5 < 0)) sg640013 := hE.km (fun i z => ⟨z, fun y => absurd y.2 (Nat.not_lt_zero _)⟩)
        refine wq_gen (fun Qz hQz => ?_)
        have hLP640014 : ∀ (n k640014 : Nat) (Ia640014 : Nat → Nat → Int32) (Qa640014 : Nat → Nat → Option Nat) (Ja640014 : Nat → Nat → Int32) (H : Heap) (locs : List Loc) (ls : Array Slot), k640014 + n = 4 → (True) → REP v pa ra L K N T Ia640014 Qa640014 Ja640014 (fun i => kxo σ i ∧ ¬ (i % 5 = Gn ∧ i / 5 < k640014)) (oRs sg640013 Gn k640014) → va_P (dC, dI) vwCl (va_pl L (pF cy K N T Ia640014 Qa640014 Ja640014)) H → va_D A (va_pl L (pF cy K N T Ia640014 Qa640014 Ja640014)) → va_S A s.heap H locs → lv_has ls 4 [(2, .int (nI k640014)), (0, .ref (v 0)), (1, .int xn)] → W p l e (headSpec wsX5_restart ({ frames := 2, cells := 0, slots := 0, locals := 44 })).room s m ([.ref (v 0), .int xn] : List Value).toArray below meth c H locs 0 0 Qz (F0 m 36 ls []) := by
          intro n
          induction n with
          | zero =>
            intro k640014  Ia640014 Qa640014 Ja640014 H locs ls hkn640014 hiv640014 hE hP hD hS hl
            have hkN640014 : k640014 = 4 := by omega
            have hC := hE.ct
            have hR : RS v Ia640014 Qa640014 Ja640014 Ia640014 Qa640014 Ja640014 := RS.rf
            have hE : REP v pa ra L K N T Ia640014 Qa640014 Ja640014 (kxo (oRs sg640013 Gn k640014)) (oRs sg640013 Gn k640014) := hE.kl (fun p n hp hn hl z => rs_kx hGn huv esg640013 p n hp hn hl (by rw [hkN640014] at z; exact z))
            refine lv_iload_n hx hb dX5_restart_36 rfl (lv_at hl 0 rfl) ?_
            refine lv_iconst (v := 4) hx hb dX5_restart_37 (by decide) ?_
            refine lv_icmp_ge (tgt := 63) hx hb dX5_restart_38 (by decide) (fun c640015 => ?_) (fun c640015 => ?_)
            rotate_left
            · exact absurd (by rw [hkN640014]; decide) c640015
            refine lv_iconst (v := 0) hx hb dX5_restart_63 (by decide) ?_
            rw [hQz]
            have e9 : qRs σ xn = ((oRs sg640013 Gn k640014), 0) := by have h4 : oRs sg640013 Gn 4 = oRs sg640013 Gn k640014 := (by rw [hkN640014]); unfold qRs; rw [if_neg (sp_inl_yes (i := 0) (j := 4) (by decide) (by decide) (by omega)), if_neg (fun z => z ((sp_iu_cnB hB).mpr (by rw [← sx640004, ← hr640005]; exact c640006))), nI_cl (by omega) eGn, eGn, ← huv, ← esg640013, h4]
            have hk9 : kxo (oRs sg640013 Gn k640014) = (kxo (oRs sg640013 Gn k640014)) := rfl
            exact W.iret (v := 0) hx hb hr (fun t ht hW => ⟨⟨0, (Ia640014, Qa640014, Ja640014), rfl, ⟨by show REP v pa ra L K N T Ia640014 Qa640014 Ja640014 (kxo (qRs σ xn).1) (qRs σ xn).1; rw [e9]; show REP v pa ra L K N T Ia640014 Qa640014 Ja640014 (kxo (oRs sg640013 Gn k640014)) (oRs sg640013 Gn k640014); rw [hk9]; exact hE, by show _ = _; rw [e9]⟩, by rw [ht]; exact hP, va_K.moved hW.alike hK, hD⟩, hS.F ht⟩) hS.2.2 dX5_restart_64
          | succ n ih640014 =>
            intro k640014  Ia640014 Qa640014 Ja640014 H locs ls hkn640014 hiv640014 hE hP hD hS hl
            have hk9640014 : k640014 < 4 := by omega
            have hkc640014 : (nI k640014).toNatClampNeg = k640014 := nI_clamp (by omega)
            have hki640014 : vp_in (nI k640014) 4 := nI_in (by omega) (by decide)
            have hC := hE.ct
            have hR : RS v Ia640014 Qa640014 Ja640014 Ia640014 Qa640014 Ja640014 := RS.rf
            refine lv_iload_n hx hb dX5_restart_36 rfl (lv_at hl 0 rfl) ?_
            refine lv_iconst (v := 4) hx hb dX5_restart_37 (by decide) ?_
            refine lv_icmp_ge (tgt := 63) hx hb dX5_restart_38 (by decide) (fun c640016 => ?_) (fun c640016 => ?_)
            · exact absurd c640016 (nI_ge (b := 4) (by omega) (by decide))
            refine lv_aload_n hx hb dX5_restart_41 rfl (lv_at hl 1 rfl) ?_
            refine lv_iload_n hx hb dX5_restart_42 rfl (lv_at hl 2 rfl) ?_
            refine lv_iload_n hx hb dX5_restart_43 rfl (lv_at hl 0 rfl) ?_
            obtain ⟨j640018, hj640018⟩ := pG_5 (cy := cy) (N := N) (T := T) (I := Ia640014) (Q := Qa640014) (J := Ja640014) (hC.at 0 (by decide)) (hC.k 0 (by decide) rfl)
            refine va_csq (W.runV (As := [.int xn, .int (nI k640014)]) (rest := []) ⟨hx, hb, hml, hown, hts⟩ (g_X5_replicaOf l dC dI cy v L K N T Ia640014 Qa640014 Ja640014 pa ra (fun i => kxo σ i ∧ ¬ (i % 5 = Gn ∧ i / 5 < k640014)) (oRs sg640013 Gn k640014) xn (nI k640014) hE) (cwV 2 hts gX5_restart_X5_replicaOf rfl rfl rfl (by decide +kernel) ⟨Nat.le_of_ble_eq_true rfl, Nat.le_of_ble_eq_true rfl⟩) ⟨pb_blind, va_recv hK hP (ci := 5) (q0 := j640018) rfl hj640018, fun U hU hW => ⟨rfl, pb_pre hP hK hN hU hW⟩⟩ rfl rfl hl.1 rfl (lv_room (Nat.le_of_ble_eq_true rfl)) dX5_restart_44 ⟨Nat.le_of_ble_eq_true rfl, Nat.le_of_ble_eq_true rfl⟩) (fun r640017 hr640017 => ?_)
            rcases hr640017 with ⟨rfl, hrn640019⟩ | ⟨P640019, n640019, hP640019, hn640019, eP640019, en640019, hl640019, rfl⟩
            · refine W.eq (g2 := F0 m 47 ls [.null]) rfl ?_
              refine lv_astore_nN (lv' := [(3, .null), (2, .int (nI k640014)), (0, .ref (v 0)), (1, .int xn)]) hx hb dX5_restart_47 rfl hl (by decide) rfl (fun ls hl => ?_)
              refine lv_aload_nN hx hb dX5_restart_48 rfl (lv_at hl 0 rfl) ?_
              refine lv_ifnullN (tgt := 57) hx hb dX5_restart_49 (by decide) ?_
              obtain ⟨v640020, ev640020⟩ : ∃ y : Int32, y = (nI k640014) + Int32.ofInt 1 := ⟨_, rfl⟩
              refine lv_iinc (v := v640020) (lv' := [(2, .int v640020), (3, .null), (0, .ref (v 0)), (1, .int xn)]) hx hb dX5_restart_57 hl (k := 1) rfl ev640020.symm (by decide) rfl (fun ls hl => ?_)
              refine lv_goto (tgt := 36) hx hb dX5_restart_60 (by decide) ?_
              obtain rfl : v640020 = nI (k640014 + 1) := ev640020.trans (nI_add k640014 1)
              exact ih640014 (k640014 + 1)  _ _ _ _ _ _ (by omega) (trivial) (by show REP v pa ra L K N T Ia640014 Qa640014 Ja640014 (fun i => kxo σ i ∧ ¬ (i % 5 = Gn ∧ i / 5 < (k640014 + 1))) (sG (oRs sg640013 Gn k640014) (5 * k640014 + Gn) 5 (-1)); exact (hE.dd hGn (fun z => sp_ir_y (t := (oRs sg640013 Gn k640014).1 2) (r := (oRs sg640013 Gn k640014).1 3) hk9640014 hGn rfl eGn z.1 z.2 hrn640019) (by decide) (by decide)).kl (fun p n hp hn hl z => ⟨z.1, fun y => z.2 ⟨y.1, by rcases Nat.lt_or_ge ((5 * p + n) / 5) k640014 with h9 | h9; (exact h9); exfalso; obtain ⟨rfl, rfl⟩ : p = k640014 ∧ n = Gn := (by omega); exact sp_ir_y (t := (oRs sg640013 n p).1 2) (r := (oRs sg640013 n p).1 3) hp hn rfl eGn hl.1 hl.2 hrn640019⟩⟩)) hP hD hS (lv_sub hl [0, 2, 3] rfl)
            · refine W.eq (g2 := F0 m 47 ls [.ref (ra (5 * P640019 + n640019))]) rfl ?_
              have cP640019 := nI_cl (by omega) eP640019
              have cn640019 := nI_cl (by omega) en640019
              have hir640019 := sp_ir_y (t := (oRs sg640013 Gn k640014).1 2) (r := (oRs sg640013 Gn k640014).1 3) hP640019 hn640019 eP640019 en640019 hl640019.1 hl640019.2
              have hlO640019 := hl640019
              obtain rfl : k640014 = P640019 := nI_inj5 (by omega) (by omega) eP640019
              obtain rfl : Gn = n640019 := nI_inj5 hGn hn640019 (eGn.symm.trans en640019)
              refine lv_astore_n (lv' := [(3, .ref (ra (5 * k640014 + Gn))), (2, .int (nI k640014)), (0, .ref (v 0)), (1, .int xn)]) hx hb dX5_restart_47 rfl hl (by decide) rfl (fun ls hl => ?_)
              refine lv_aload_n hx hb dX5_restart_48 rfl (lv_at hl 0 rfl) ?_
              refine lv_ifnull hx hb dX5_restart_49 ?_
              refine lv_aload_n hx hb dX5_restart_52 rfl (lv_at hl 0 rfl) ?_
              refine lv_iconst (v := (-1)) hx hb dX5_restart_53 (by decide) ?_
              obtain ⟨j640021, hj640021⟩ := pG_4 (cy := cy) (N := N) (T := T) (I := Ia640014) (Q := Qa640014) (J := Ja640014) (hE.rL hP640019 hn640019 hl640019).1 (hE.rL hP640019 hn640019 hl640019).2
              have hDo := hD
              refine va_put (D := (dC, dI)) (ci := 4) (v := .int (-1)) (ty := .int) (C := RX4) (T := TX4) (N := 7) hx hb hts hi4 tyX4 tyX4_ok nmX4 hown hK hP hD hS j640021 hj640021 rfl 5 (by decide) (hts (.fieldLink RX5 157 "TallyLogs$Replica" "known" "I") (by decide +kernel)) (fun _ h9 => h9) rfl (by decide +kernel) rfl rfl (Nat.le_of_ble_eq_true rfl) dX5_restart_54 (fun H locs hP hD hS => ?_)
              have hP := Eq.mp (congrArg (fun w => va_P (dC, dI) vwCl w H) (pP_4_5 (x := (-1)) hDo (hE.rL hP640019 hn640019 hl640019).1 (hE.rL hP640019 hn640019 hl640019).2 hj640021)) hP
              obtain ⟨I640022, eI640022⟩ : ∃ z, z = p2 Ia640014 (ra (5 * k640014 + Gn)) 5 (-1) := ⟨_, rfl⟩
              rw [← eI640022] at hP
              have hR : RS v I640022 Qa640014 Ja640014 I640022 Qa640014 Ja640014 := RS.rf
              obtain ⟨sg640023, esg640023⟩ : ∃ z, z = sG (oRs sg640013 Gn k640014) (5 * k640014 + Gn) 5 (-1) := ⟨_, rfl⟩
              have hE : REP v pa ra L K N T I640022 Qa640014 Ja640014 (fun i => kxo σ i ∧ ¬ (i % 5 = Gn ∧ i / 5 < (k640014 + 1))) sg640023 := by rw [esg640023, eI640022]; exact hE.wr hP640019 hn640019 hl640019 (by decide) (by decide) (fun i hi z => ⟨z.1, fun y => z.2 ⟨y.1, by omega⟩⟩)
              have hl640019 : lvj sg640023 k640014 Gn := by rw [esg640023]; exact hl640019
              have hC : CT v L K N T I640022 Qa640014 := by rw [eI640022]; exact hC.pi (by rw [(hE.rL hP640019 hn640019 hl640019).2]; decide)
              have hD : va_D A (va_pl L (pF cy K N T I640022 Qa640014 Ja640014)) := pD hDo
              obtain ⟨v640024, ev640024⟩ : ∃ y : Int32, y = (nI k640014) + Int32.ofInt 1 := ⟨_, rfl⟩
              refine lv_iinc (v := v640024) (lv' := [(2, .int v640024), (3, .ref (ra (5 * k640014 + Gn))), (0, .ref (v 0)), (1, .int xn)]) hx hb dX5_restart_57 hl (k := 1) rfl ev640024.symm (by decide) rfl (fun ls hl => ?_)
              refine lv_goto (tgt := 36) hx hb dX5_restart_60 (by decide) ?_
              obtain rfl : v640024 = nI (k640014 + 1) := ev640024.trans (nI_add k640014 1)
              exact ih640014 (k640014 + 1)  _ _ _ _ _ _ (by omega) (trivial) (by show REP v pa ra L K N T I640022 Qa640014 Ja640014 (fun i => kxo σ i ∧ ¬ (i % 5 = Gn ∧ i / 5 < (k640014 + 1))) (sG (oRs sg640013 Gn k640014) (5 * k640014 + Gn) 5 (-1)); rw [← esg640023]; exact hE) hP hD hS (lv_sub hl [0, 2, 3] rfl)
        exact hLP640014 4 0  _ _ _ _ _ _ rfl (trivial) hE hP hD hS (lv_sub hl [0, 1, 2] rfl)
      · have kc640006 : ¬ (r640005.toInt = 0) := by have h9 := c640006; rw [xk_eq, xk_0] at h9; exact h9
        refine lv_iconst (v := (-1)) hx hb dX5_restart_20 (by decide) ?_
        have e9 : qRs σ xn = (σ, (-1)) := by unfold qRs; rw [if_neg (sp_inl_yes (i := 0) (j := 4) (by decide) (by decide) (by omega)), if_pos (fun z => c640006 (by rw [hr640005, sx640004]; exact (sp_iu_cnB hB).mp z))]
        have hk9 : kxo σ = (kxo σ) := rfl
        exact W.iret (v := (-1)) hx hb hr (fun t ht hW => ⟨⟨(-1), (I, Q, J), rfl, ⟨by show REP v pa ra L K N T I Q J (kxo (qRs σ xn).1) (qRs σ xn).1; rw [e9]; show REP v pa ra L K N T I Q J (kxo σ) σ; rw [hk9]; exact hE, by show _ = _; rw [e9]⟩, by rw [ht]; exact hP, va_K.moved hW.alike hK, hD⟩, hS.F ht⟩) hS.2.2 dX5_restart_21
