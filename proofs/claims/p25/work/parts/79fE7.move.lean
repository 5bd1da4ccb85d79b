/-- move -/
def qMv (σ : SG) (g m r p o : Int32) : SG × Int32 := (if sp_mvr (σ.1 13 g.toNatClampNeg) (σ.1 14 g.toNatClampNeg) (fun q => zN (σ.1 2 q)) g m r p o = 0 then sA σ 15 (4 * g.toNatClampNeg + p.toNatClampNeg) o else σ, sp_mvr (σ.1 13 g.toNatClampNeg) (σ.1 14 g.toNatClampNeg) (fun q => zN (σ.1 2 q)) g m r p o)
theorem sp_cnt_c9 {t t2 : Nat → Int32} : ∀ n : Nat, (∀ q, q < n → t q = t2 q) → sp_cnt t n = sp_cnt t2 n := by
  intro n
  induction n with
  | zero => intro _; rfl
  | succ n ih =>
    intro h
    show sp_cnt t n + t n = sp_cnt t2 n + t2 n
    rw [ih (fun q hq => h q (by omega)), h n (by omega)]
theorem sp_mvr_c {a b a2 b2 : Int32} {t t2 : Nat → Int32} {g m r p o : Int32} (h1 : (0 ≤ g.toInt ∧ g.toInt < 4) → a = a2 ∧ b = b2) (h2 : ∀ q, q < 4 → t q = t2 q) : sp_mvr a b t g m r p o = sp_mvr a2 b2 t2 g m r p o := by
  unfold sp_mvr
  by_cases hg : 0 ≤ g.toInt ∧ g.toInt < 4
  · rw [if_pos hg, if_pos hg]
    by_cases hp : 0 ≤ p.toInt ∧ p.toInt < 4
    · have hj : p.toNatClampNeg < 4 := vp_lt (xin_of hp.1 hp.2)
      rw [if_pos hp, if_pos hp, (h1 hg).1, (h1 hg).2, h2 _ hj, sp_cnt_c9 (t2 := t2) p.toNatClampNeg (fun q hq => h2 q (by omega))]
    · rw [if_neg hp, if_neg hp]
  · rw [if_neg hg, if_neg hg]
theorem sp_mvr_i {mb rd : Int32} {t : Nat → Int32} {g m r p o : Int32} (h : sp_mvr mb rd t g m r p o = 0) : (0 ≤ g.toInt ∧ g.toInt < 4) ∧ 0 ≤ p.toInt ∧ p.toInt < 4 := by
  unfold sp_mvr at h
  by_cases hg : 0 ≤ g.toInt ∧ g.toInt < 4
  · rw [if_pos hg] at h
    by_cases hp : 0 ≤ p.toInt ∧ p.toInt < 4
    · exact ⟨hg, hp⟩
    · rw [if_neg hp] at h; exact absurd h (by decide)
  · rw [if_neg hg] at h; exact absurd h (by decide)
theorem MR.mvr {w : Nat → Nat} {I J : Nat → Nat → Int32} {σ : SG} (h : MR w I J σ) (g m r p o : Int32) : sp_mvr (J (w 13) g.toNatClampNeg) (J (w 14) g.toNatClampNeg) (fun q => zN (J (w 2) q)) g m r p o = sp_mvr (σ.1 13 g.toNatClampNeg) (σ.1 14 g.toNatClampNeg) (fun q => zN (σ.1 2 q)) g m r p o :=
  sp_mvr_c (fun hg => ⟨h.a (by decide) (by decide) (vp_lt (n := 4) (xin_of hg.1 hg.2)), h.a (by decide) (by decide) (vp_lt (n := 4) (xin_of hg.1 hg.2))⟩) (fun q hq => by show zN _ = zN _; rw [h.a (by decide) (by decide) (show q < wN 2 from hq)])
/-- the model's move, as a value -/
theorem MR.mv9 {w : Nat → Nat} {I I' J J' : Nat → Nat → Int32} {σ : SG} {L : List Nat} {K N : Nat → Nat} {T : Nat → Nat → Nat} {Q : Nat → Nat → Option Nat} (h : MR w I J σ) (hM : MS w L K N T Q) {g m r p o a : Int32} (ha : a = sp_mvr (J (w 13) g.toNatClampNeg) (J (w 14) g.toNatClampNeg) (fun q => zN (J (w 2) q)) g m r p o) (hI : I' = I) (hJ : J' = sp_mvM w J g p o a) : MR w I' J' (qMv σ g m r p o).1 ∧ a = (qMv σ g m r p o).2 := by
  rw [h.mvr] at ha
  rw [hI]
  refine ⟨?_, ha⟩
  show MR w I J' (if _ = 0 then _ else σ)
  rw [← ha, hJ]
  unfold sp_mvM
  by_cases e : a = 0
  · rw [if_pos e, if_pos e]; exact h.wa hM (by decide) (by decide)
  · rw [if_neg e, if_neg e]; exact h
/-- the class's move -/
theorem REP.mv9 {v pa ra : Nat → Nat} {L : List Nat} {K N : Nat → Nat} {T : Nat → Nat → Nat} {I I' : Nat → Nat → Int32} {Q Q' : Nat → Nat → Option Nat} {J J' : Nat → Nat → Int32} {σ : SG} (h : REP v pa ra L K N T I Q J (kxo σ) σ) {g m r p o a : Int32} (ha : a = sp_mvr (I (v (10 + g.toNatClampNeg)) 0) (I (v (10 + g.toNatClampNeg)) 1) (fun q => oN (Q (v 1) q)) g m r p o) (hI : I' = I) (hQ : Q' = Q) (hJ : J' = sp_mvJ v J g p o a) : REP v pa ra L K N T I' Q' J' (kxo (qMv σ g m r p o).1) (qMv σ g m r p o).1 ∧ a = (qMv σ g m r p o).2 := by
  have e1 : a = sp_mvr (σ.1 13 g.toNatClampNeg) (σ.1 14 g.toNatClampNeg) (fun q => zN (σ.1 2 q)) g m r p o := by
    rw [ha]
    refine sp_mvr_c (fun hg => h.gr _ (vp_lt (n := 4) (xin_of hg.1 hg.2))) (fun q hq => ?_)
    show oN (Q (v 1) q) = zN (σ.1 2 q)
    by_cases z : σ.1 2 q = 0
    · rw [(h.pt q hq).1 z, zN, if_pos z]; rfl
    · rw [h.pq hq z, zN, if_neg z]; rfl
  refine ⟨?_, e1⟩
  rw [hI, hQ, hJ]
  unfold sp_mvJ
  by_cases e : a = 0
  · obtain ⟨hg, hp⟩ := sp_mvr_i (e1.symm.trans e)
    have eq : (qMv σ g m r p o).1 = sA σ 15 (4 * g.toNatClampNeg + p.toNatClampNeg) o := by unfold qMv; rw [← e1]; exact if_pos e
    have ek : kxo (sA σ 15 (4 * g.toNatClampNeg + p.toNatClampNeg) o) = kxo σ := kxo_c (sA_n (by decide)) (fun q => sA_n (by decide))
    rw [if_pos e, eq, ek]
    exact h.wj (vp_lt (n := 4) (xin_of hg.1 hg.2)) (vp_lt (n := 4) (xin_of hp.1 hp.2))
  · have eq : (qMv σ g m r p o).1 = σ := by unfold qMv; rw [← e1]; exact if_neg e
    rw [if_neg e, eq]
    exact h
theorem SK.mv {σ : SG} (h : SK σ) (g m r p o : Int32) : SK (qMv σ g m r p o).1 := by
  unfold qMv
  show SK (if _ then _ else _ : SG)
  split
  · exact h.a (by omega) (by decide)
  · exact h
set_option maxHeartbeats 4000000 in
set_option maxRecDepth 100000 in
/-- move, what it writes -/
theorem g_X5_move (l : Launch) (dC : Nat → ClassId) (dI : Nat → Nat → Nat) (cy : Nat → ClassId) (v : Nat → Nat) (L : List Nat) (K N : Nat → Nat) (T : Nat → Nat → Nat) (I : Nat → Nat → Int32) (Q : Nat → Nat → Option Nat) (J : Nat → Nat → Int32) (sz : Nat) (xg : Int32) (xm : Int32) (xr : Int32) (xp : Int32) (xo : Int32) (hC : CT v L K N T I Q) : Met l yX5_move wsX5_move ({ frames := 2, cells := 0, slots := 0, locals := 45 }) (va_Pc [.ref (v 0), .int xg, .int xm, .int xr, .int xp, .int xo] (pW dC dI cy L (pF cy K N T I Q J) sz)) (va_Qi (fun (r : Int32) (d : (Nat → Nat → Int32) × (Nat → Nat → Option Nat) × (Nat → Nat → Int32)) => (CT v L K N T d.1 d.2.1 ∧ d.1 = I ∧ d.2.1 = Q ∧ d.2.2 = sp_mvJ v J xg xp xo r) ∧ r = sp_mvr (I (v (10 + xg.toNatClampNeg)) 0) (I (v (10 + xg.toNatClampNeg)) 1) (fun q => oN (Q (v 1) q)) xg xm xr xp xo) (fun (d : (Nat → Nat → Int32) × (Nat → Nat → Option Nat) × (Nat → Nat → Int32)) t => va_P (dC, dI) vwCl (va_pl L (pF cy K N T d.1 d.2.1 d.2.2)) t.heap ∧ va_K (dC, dI) vwCl (pTy cy) t ∧ va_D (va_A (va_pl L (pF cy K N T I Q J)) sz) (va_pl L (pF cy K N T d.1 d.2.1 d.2.2))) (va_A (va_pl L (pF cy K N T I Q J)) sz)) 0 0 (va_A (va_pl L (pF cy K N T I Q J)) sz) := by
  refine Met.ofW (cc := cX5_move) (maxL := 7) (ret := (some .int)) (by decide) rfl ?_
  intro p e s m args below meth c s₁ B hml hv
  obtain ⟨rfl, hsz, ⟨hP, hK, hN⟩, hD0⟩ := hv
  have hx := B.exec
  have hb := B.bytes
  have hr := B.returns
  have hts := atoms_spec (ws := wsX5_move) B.pre
  have hown : s.vm.findClass RX5 = some m.cls := findClass_of_methodNamed B.named
  have hlocks := B.notSynchronized
  have hi5 : ∀ w ∈ wsX50, w ∈ wsX5_move := by decide +kernel
  have hi1 : ∀ w ∈ wsX10, w ∈ wsX5_move := by decide +kernel
  have hl := lv_entry ([.ref (v 0), .int xg, .int xm, .int xr, .int xp, .int xo]) (n := 7) (Nat.le_of_ble_eq_true rfl)
  rw [lg_entry_eq]
  generalize (lg_sl ([.ref (v 0), .int xg, .int xm, .int xr, .int xp, .int xo]) ++ List.replicate (7 - (lg_sl ([.ref (v 0), .int xg, .int xm, .int xr, .int xp, .int xo])).length) Slot.unset).toArray = ls at hl ⊢
  have hl : lv_has ls 7 [(0, .ref (v 0)), (1, .int xg), (2, .int xm), (3, .int xr), (4, .int xp), (5, .int xo)] := hl
  subst hsz
  have hD := hD0.self (sz := s.heap.size)
  generalize hAe : va_A (va_pl L (pF cy K N T I Q J)) s.heap.size = A at hD ⊢
  have hA : ∀ q : Nat, s.heap.size ≤ q → A q := fun q h => by rw [← hAe]; exact Or.inr h
  have hS : va_S A s.heap s.heap [] := va_S.rf
  have hR : RS v I Q J I Q J := RS.rf
  have hn28 := hN.1
  have hn30 := hN.2.1
  have hn37 := hN.2.2.1
  refine lv_aload_n hx hb dX5_move_0 rfl (lv_at hl 0 rfl) ?_
  refine lv_iload_n hx hb dX5_move_1 rfl (lv_at hl 1 rfl) ?_
  obtain ⟨j720002, hj720002⟩ := pG_5 (cy := cy) (N := N) (T := T) (I := I) (Q := Q) (J := J) (hC.at 0 (by decide)) (hC.k 0 (by decide) rfl)
  refine va_csq (W.runV (As := [.int xg]) (rest := []) ⟨hx, hb, hml, hown, hts⟩ (c_X5_groupAt l dC dI cy v L K N T I Q J  xg hC) (cwV 1 hts gX5_move_X5_groupAt rfl rfl rfl (by decide +kernel) ⟨Nat.le_of_ble_eq_true rfl, Nat.le_of_ble_eq_true rfl⟩) ⟨pb_blind, va_recv hK hP (ci := 5) (q0 := j720002) rfl hj720002, fun U hU hW => ⟨rfl, pb_pre hP hK hN hU hW⟩⟩ rfl rfl hl.1 rfl (lv_room (Nat.le_of_ble_eq_true rfl)) dX5_move_2 ⟨Nat.le_of_ble_eq_true rfl, Nat.le_of_ble_eq_true rfl⟩) (fun r720001 hr720001 => ?_)
  rcases hr720001 with ⟨hn720003, rfl⟩ | ⟨j720003, hj720003, hn720003, rfl⟩
  · refine W.eq (g2 := F0 m 5 ls [.null]) rfl ?_
    refine lv_astoreN (lv' := [(6, .null), (0, .ref (v 0)), (1, .int xg), (2, .int xm), (3, .int xr), (4, .int xp), (5, .int xo)]) hx hb dX5_move_5 hl (by decide) rfl (fun ls hl => ?_)
    refine lv_aloadN hx hb dX5_move_7 (lv_at hl 0 rfl) ?_
    refine lv_ifnullN (tgt := 26) hx hb dX5_move_9 (by decide) ?_
    refine lv_iconst (v := (-1)) hx hb dX5_move_26 (by decide) ?_
    exact W.iret (v := (-1)) hx hb hr (fun t ht hW => ⟨⟨(-1), (I, Q, J), rfl, ⟨⟨hC, rfl, rfl, by show J = sp_mvJ v J xg xp xo ((-1)); rw [sp_mvJ, if_neg (by decide)]⟩, by show _ = _; rw [sp_mvr, if_neg (fun q => hn720003 ⟨by omega, by omega⟩)]⟩, by rw [ht]; exact hP, va_K.moved hW.alike hK, hD⟩, hS.F ht⟩) hS.2.2 dX5_move_27
  · refine W.eq (g2 := F0 m 5 ls [.ref (v (10 + j720003))]) rfl ?_
    refine lv_astore (lv' := [(6, .ref (v (10 + j720003))), (0, .ref (v 0)), (1, .int xg), (2, .int xm), (3, .int xr), (4, .int xp), (5, .int xo)]) hx hb dX5_move_5 hl (by decide) rfl (fun ls hl => ?_)
    refine lv_aload hx hb dX5_move_7 (lv_at hl 0 rfl) ?_
    refine lv_ifnull hx hb dX5_move_9 ?_
    refine lv_aload_n hx hb dX5_move_12 rfl (lv_at hl 1 rfl) ?_
    refine lv_iload hx hb dX5_move_13 (lv_at hl 5 rfl) ?_
    obtain ⟨j720005, hj720005⟩ := pG_5 (cy := cy) (N := N) (T := T) (I := I) (Q := Q) (J := J) (hC.at 0 (by decide)) (hC.k 0 (by decide) rfl)
    refine va_csq (W.runV (As := [.int xp]) (rest := []) ⟨hx, hb, hml, hown, hts⟩ (e_X5_partitionAt l dC dI cy v L K N T I Q J  xp hC) (cwV 1 hts gX5_move_X5_partitionAt rfl rfl rfl (by decide +kernel) ⟨Nat.le_of_ble_eq_true rfl, Nat.le_of_ble_eq_true rfl⟩) ⟨pb_blind, va_recv hK hP (ci := 5) (q0 := j720005) rfl hj720005, fun U hU hW => ⟨rfl, pb_pre hP hK hN hU hW⟩⟩ rfl rfl hl.1 rfl (lv_room (Nat.le_of_ble_eq_true rfl)) dX5_move_15 ⟨Nat.le_of_ble_eq_true rfl, Nat.le_of_ble_eq_true rfl⟩) (fun r720004 hr720004 => ?_)
    rcases hr720004 with ⟨hn720006, rfl⟩ | ⟨j720006, hj720006, hn720006, hq720006⟩
    · refine W.eq (g2 := F0 m 18 ls [.null]) rfl ?_
      refine lv_ifnullN (tgt := 26) hx hb dX5_move_18 (by decide) ?_
      refine lv_iconst (v := (-1)) hx hb dX5_move_26 (by decide) ?_
      exact W.iret (v := (-1)) hx hb hr (fun t ht hW => ⟨⟨(-1), (I, Q, J), rfl, ⟨⟨hC, rfl, rfl, by show J = sp_mvJ v J xg xp xo ((-1)); rw [sp_mvJ, if_neg (by decide)]⟩, by show _ = _; rw [sp_mvr, if_pos (by rw [hn720003, nI_toInt (by omega)]; omega), if_neg (fun q => hn720006 ⟨by omega, by omega⟩)]⟩, by rw [ht]; exact hP, va_K.moved hW.alike hK, hD⟩, hS.F ht⟩) hS.2.2 dX5_move_27
    · cases r720004 with
      | none =>
        refine W.eq (g2 := F0 m 18 ls [.null]) rfl ?_
        refine lv_ifnullN (tgt := 26) hx hb dX5_move_18 (by decide) ?_
        refine lv_iconst (v := (-1)) hx hb dX5_move_26 (by decide) ?_
        exact W.iret (v := (-1)) hx hb hr (fun t ht hW => ⟨⟨(-1), (I, Q, J), rfl, ⟨⟨hC, rfl, rfl, by show J = sp_mvJ v J xg xp xo ((-1)); rw [sp_mvJ, if_neg (by decide)]⟩, by show _ = _; rw [sp_mvr, if_pos (by rw [hn720003, nI_toInt (by omega)]; omega), if_pos (by rw [hn720006, nI_toInt (by omega)]; omega), show xp.toNatClampNeg = j720006 by rw [hn720006, nI_clamp (by omega)], if_pos (by show oN (Q (v 1) j720006) = 0; rw [← hq720006]; rfl)]⟩, by rw [ht]; exact hP, va_K.moved hW.alike hK, hD⟩, hS.F ht⟩) hS.2.2 dX5_move_27
      | some b720007 =>
        have hTb720007 := hC.2.2.2.1 j720006 b720007 hj720006 hq720006.symm
        refine W.eq (g2 := F0 m 18 ls [.ref b720007]) rfl ?_
        refine lv_ifnull hx hb dX5_move_18 ?_
        refine lv_iload hx hb dX5_move_21 (lv_at hl 6 rfl) ?_
        refine lv_if_ge (tgt := 28) hx hb dX5_move_23 (by decide) (fun c720008 => ?_) (fun c720008 => ?_)
        · refine lv_iload_n hx hb dX5_move_28 rfl (lv_at hl 3 rfl) ?_
          refine lv_if_lt (tgt := 56) hx hb dX5_move_29 (by decide) (fun c720009 => ?_) (fun c720009 => ?_)
          · refine lv_bipush (v := (-4)) hx hb dX5_move_56 (by decide) ?_
            exact W.iret (v := (-4)) hx hb hr (fun t ht hW => ⟨⟨(-4), (I, Q, J), rfl, ⟨⟨hC, rfl, rfl, by show J = sp_mvJ v J xg xp xo ((-4)); rw [sp_mvJ, if_neg (by decide)]⟩, by show _ = _; rw [sp_mvr, if_pos (by rw [hn720003, nI_toInt (by omega)]; omega), if_pos (by rw [hn720006, nI_toInt (by omega)]; omega), show xp.toNatClampNeg = j720006 by rw [hn720006, nI_clamp (by omega)], if_neg (fun q => by have q := oN_0.mp q; rw [← hq720006] at q; cases q), if_neg (by have k9 := c720008; rw [xk_le, xk_0] at k9; omega), show xg.toNatClampNeg = j720003 by rw [hn720003, nI_clamp (by omega)]]; rw [if_neg (fun q => by have k9 := c720009; rw [xk_lt, xk_0] at k9; omega)]⟩, by rw [ht]; exact hP, va_K.moved hW.alike hK, hD⟩, hS.F ht⟩) hS.2.2 dX5_move_58
          · refine lv_iload_n hx hb dX5_move_32 rfl (lv_at hl 3 rfl) ?_
            refine lv_aload hx hb dX5_move_33 (lv_at hl 0 rfl) ?_
            refine lv_aload_n hx hb dX5_move_35 rfl (lv_at hl 1 rfl) ?_
            refine lv_iload hx hb dX5_move_36 (lv_at hl 5 rfl) ?_
            obtain ⟨j720011, hj720011⟩ := pG_5 (cy := cy) (N := N) (T := T) (I := I) (Q := Q) (J := J) (hC.at 0 (by decide)) (hC.k 0 (by decide) rfl)
            refine vp_callSi (W.runV (As := [.int xp]) (rest := [.ref (v (10 + j720003)), .int xm]) ⟨hx, hb, hml, hown, hts⟩ (e_X5_placeOf l dC dI cy v L K N T I Q J  xp j720006 hC hj720006 hn720006) (cwV 1 hts gX5_move_X5_placeOf rfl rfl rfl (by decide +kernel) ⟨Nat.le_of_ble_eq_true rfl, Nat.le_of_ble_eq_true rfl⟩) ⟨pb_blind, va_recv hK hP (ci := 5) (q0 := j720011) rfl hj720011, fun U hU hW => ⟨rfl, pb_pre hP hK hN hU hW⟩⟩ rfl rfl hl.1 rfl (lv_room (Nat.le_of_ble_eq_true rfl)) dX5_move_38 ⟨Nat.le_of_ble_eq_true rfl, Nat.le_of_ble_eq_true rfl⟩) (fun r720010 hr720010 => ?_)
            obtain ⟨j720013, hj720013⟩ := pG_1 (cy := cy) (N := N) (T := T) (I := I) (Q := Q) (J := J) (hC.kg hj720003).1 (hC.kg hj720003).2
            refine vp_callSi (W.runV (As := [.int r720010]) (rest := [.int xm]) ⟨hx, hb, hml, hown, hts⟩ (e_X1_memberAt l dC dI cy v L K N T I Q J (v (10 + j720003)) r720010 hC (hC.kg hj720003).1 (hC.kg hj720003).2) (cwV 1 hts gX5_move_X1_memberAt rfl rfl rfl (by decide +kernel) ⟨Nat.le_of_ble_eq_true rfl, Nat.le_of_ble_eq_true rfl⟩) ⟨pb_blind, va_recv hK hP (ci := 1) (q0 := j720013) rfl hj720013, fun U hU hW => ⟨rfl, pb_pre hP hK hN hU hW⟩⟩ rfl rfl hl.1 rfl (lv_room (Nat.le_of_ble_eq_true rfl)) dX5_move_41 ⟨Nat.le_of_ble_eq_true rfl, Nat.le_of_ble_eq_true rfl⟩) (fun r720012 hr720012 => ?_)
            refine lv_icmp_ne (tgt := 56) hx hb dX5_move_44 (by decide) (fun c720014 => ?_) (fun c720014 => ?_)
            · refine lv_bipush (v := (-4)) hx hb dX5_move_56 (by decide) ?_
              exact W.iret (v := (-4)) hx hb hr (fun t ht hW => ⟨⟨(-4), (I, Q, J), rfl, ⟨⟨hC, rfl, rfl, by show J = sp_mvJ v J xg xp xo ((-4)); rw [sp_mvJ, if_neg (by decide)]⟩, by show _ = _; rw [sp_mvr, if_pos (by rw [hn720003, nI_toInt (by omega)]; omega), if_pos (by rw [hn720006, nI_toInt (by omega)]; omega), show xp.toNatClampNeg = j720006 by rw [hn720006, nI_clamp (by omega)], if_neg (fun q => by have q := oN_0.mp q; rw [← hq720006] at q; cases q), if_neg (by have k9 := c720008; rw [xk_le, xk_0] at k9; omega), show xg.toNatClampNeg = j720003 by rw [hn720003, nI_clamp (by omega)]]; rw [← hr720010, ← hr720012, if_neg (fun q => c720014 q.2.1)]⟩, by rw [ht]; exact hP, va_K.moved hW.alike hK, hD⟩, hS.F ht⟩) hS.2.2 dX5_move_58
            · refine lv_iload_n hx hb dX5_move_47 rfl (lv_at hl 4 rfl) ?_
              refine lv_aload hx hb dX5_move_48 (lv_at hl 0 rfl) ?_
              obtain ⟨j720015, hj720015⟩ := pG_1 (cy := cy) (N := N) (T := T) (I := I) (Q := Q) (J := J) (hC.kg hj720003).1 (hC.kg hj720003).2
              refine va_get (D := (dC, dI)) (ci := 1) (v := .int (I (v (10 + j720003)) 1)) (C := RX1) (T := TX1) (N := 3) hx hb hts hi1 hown hK hP j720015 hj720015 rfl 1 (by decide) (hts (.fieldLink RX5 201 "TallyLogs$Group" "round" "I") (by decide +kernel)) (fun _ h9 => h9) rfl dX5_move_50 ?_
              refine lv_topi (fun x720016 ex720016 => ?_)
              refine lv_icmp_eq (tgt := 59) hx hb dX5_move_53 (by decide) (fun c720017 => ?_) (fun c720017 => ?_)
              · refine lv_aload hx hb dX5_move_59 (lv_at hl 0 rfl) ?_
                refine lv_iload hx hb dX5_move_61 (lv_at hl 5 rfl) ?_
                refine lv_iload hx hb dX5_move_63 (lv_at hl 6 rfl) ?_
                obtain ⟨j720018, hj720018⟩ := pG_1 (cy := cy) (N := N) (T := T) (I := I) (Q := Q) (J := J) (hC.kg hj720003).1 (hC.kg hj720003).2
                have hFc := pfree hD hS hA
                have hin9 : vp_in xp 4 := by rw [hn720006]; exact nI_in hj720006 (by decide)
                refine va_callv (va_runV (As := [.int xp, .int xo]) (rest := []) ⟨hx, hb, hml, hown, hts⟩ (e_X1_setOffset l dC dI cy v L K N T I Q J s.heap.size j720003 xp xo hC hj720003 hin9) (cwV 2 hts gX5_move_X1_setOffset rfl rfl rfl (by decide +kernel) ⟨Nat.le_of_ble_eq_true rfl, Nat.le_of_ble_eq_true rfl⟩) ⟨pw_blind, va_recv hK hP (ci := 1) (q0 := j720018) rfl hj720018, fun U hU hW => ⟨rfl, pw_pre hP hK hN hD hU hW⟩⟩ rfl rfl hl.1 rfl (lv_room (Nat.le_of_ble_eq_true rfl)) dX5_move_65 ⟨Nat.le_of_ble_eq_true rfl, Nat.le_of_ble_eq_true rfl⟩) hS (fun q _ h => hFc q h) hFc (fun d9 t H1 locs ht hvm hw hB hz1 hk1 hS => ?_)
                obtain ⟨I720019, Q720019, J720019⟩ := d9
                obtain ⟨hC, eI9, eQ9, eJ9⟩ := hw
                obtain ⟨hP, hK1, hD1⟩ := hB
                rw [ht] at hP
                have hD := hD1.weaken (fun _ _ _ h => hFc _ h)
                generalize H1 = H at hP hS ⊢
                have hP : va_P (dC, dI) vwCl (va_pl L (pF cy K N T I720019 Q720019 J720019)) H := hP
                have hD : va_D A (va_pl L (pF cy K N T I720019 Q720019 J720019)) := hD
                have hC : CT v L K N T I720019 Q720019 := hC
                have eI9 : I720019 = I := eI9
                have eQ9 : Q720019 = Q := eQ9
                have eJ9 : J720019 = va_up J (v (14 + j720003)) (upd (J (v (14 + j720003))) xp.toNatClampNeg xo) := eJ9
                refine lv_iconst (v := 0) hx hb dX5_move_68 (by decide) ?_
                exact W.iret (v := 0) hx hb hr (fun t ht hW => ⟨⟨0, (I720019, Q720019, J720019), rfl, ⟨⟨hC, eI9, eQ9, by show J720019 = sp_mvJ v J xg xp xo 0; rw [sp_mvJ, if_pos rfl, show xg.toNatClampNeg = j720003 by rw [hn720003, nI_clamp (by omega)], ← eJ9]⟩, by show _ = _; rw [sp_mvr, if_pos (by rw [hn720003, nI_toInt (by omega)]; omega), if_pos (by rw [hn720006, nI_toInt (by omega)]; omega), show xp.toNatClampNeg = j720006 by rw [hn720006, nI_clamp (by omega)], if_neg (fun q => by have q := oN_0.mp q; rw [← hq720006] at q; cases q), if_neg (by have k9 := c720008; rw [xk_le, xk_0] at k9; omega), show xg.toNatClampNeg = j720003 by rw [hn720003, nI_clamp (by omega)]]; rw [← hr720010, ← hr720012, if_pos ⟨by have k9 := c720009; rw [xk_lt, xk_0] at k9; omega, c720014, by rw [← ex720016]; exact c720017⟩]⟩, by rw [ht]; exact hP, va_K.moved hW.alike hK, hD⟩, hS.F ht⟩) hS.2.2 dX5_move_69
              · refine lv_bipush (v := (-4)) hx hb dX5_move_56 (by decide) ?_
                exact W.iret (v := (-4)) hx hb hr (fun t ht hW => ⟨⟨(-4), (I, Q, J), rfl, ⟨⟨hC, rfl, rfl, by show J = sp_mvJ v J xg xp xo ((-4)); rw [sp_mvJ, if_neg (by decide)]⟩, by show _ = _; rw [sp_mvr, if_pos (by rw [hn720003, nI_toInt (by omega)]; omega), if_pos (by rw [hn720006, nI_toInt (by omega)]; omega), show xp.toNatClampNeg = j720006 by rw [hn720006, nI_clamp (by omega)], if_neg (fun q => by have q := oN_0.mp q; rw [← hq720006] at q; cases q), if_neg (by have k9 := c720008; rw [xk_le, xk_0] at k9; omega), show xg.toNatClampNeg = j720003 by rw [hn720003, nI_clamp (by omega)]]; rw [← hr720010, ← hr720012, if_neg (fun q => c720017 (by rw [ex720016]; exact q.2.2))]⟩, by rw [ht]; exact hP, va_K.moved hW.alike hK, hD⟩, hS.F ht⟩) hS.2.2 dX5_move_58
        · refine lv_iconst (v := (-1)) hx hb dX5_move_26 (by decide) ?_
          exact W.iret (v := (-1)) hx hb hr (fun t ht hW => ⟨⟨(-1), (I, Q, J), rfl, ⟨⟨hC, rfl, rfl, by show J = sp_mvJ v J xg xp xo ((-1)); rw [sp_mvJ, if_neg (by decide)]⟩, by show _ = _; rw [sp_mvr, if_pos (by rw [hn720003, nI_toInt (by omega)]; omega), if_pos (by rw [hn720006, nI_toInt (by omega)]; omega), show xp.toNatClampNeg = j720006 by rw [hn720006, nI_clamp (by omega)], if_neg (fun q => by have q := oN_0.mp q; rw [← hq720006] at q; cases q), if_pos (by have k9 := c720008; rw [xk_le, xk_0] at k9; omega)]⟩, by rw [ht]; exact hP, va_K.moved hW.alike hK, hD⟩, hS.F ht⟩) hS.2.2 dX5_move_27
set_option maxHeartbeats 4000000 in
set_option maxRecDepth 100000 in
/-- move, what it writes -/
theorem g_X7_move (l : Launch) (dC : Nat → ClassId) (dI : Nat → Nat → Nat) (cy : Nat → ClassId) (w : Nat → Nat) (L : List Nat) (K N : Nat → Nat) (T : Nat → Nat → Nat) (Q : Nat → Nat → Option Nat) (I J : Nat → Nat → Int32) (sz : Nat) (E : Int) (xg : Int32) (xm : Int32) (xr : Int32) (xp : Int32) (xo : Int32) (hM : MS w L K N T Q) (hI : MI w E I J) (hE : E ≤ 1000) : Met l yX7_move wsX7_move ({ frames := 3, cells := 0, slots := 0, locals := 77 }) (va_Pc [.ref (w 0), .int xg, .int xm, .int xr, .int xp, .int xo] (mW dC dI cy L (wF cy K N T I Q J) sz)) (va_Qi (fun (r : Int32) (d : (Nat → Nat → Int32) × (Nat → Nat → Int32)) => MI w (E + 5) d.1 d.2 ∧ d.1 = I ∧ d.2 = sp_mvM w J xg xp xo r ∧ r = sp_mvr (J (w 13) xg.toNatClampNeg) (J (w 14) xg.toNatClampNeg) (fun q => zN (J (w 2) q)) xg xm xr xp xo) (fun (d : (Nat → Nat → Int32) × (Nat → Nat → Int32)) t => va_P (dC, dI) vwCl (va_pl L (wF cy K N T d.1 Q d.2)) t.heap ∧ va_K (dC, dI) vwCl (mTy cy) t ∧ va_D (va_A (va_pl L (wF cy K N T I Q J)) sz) (va_pl L (wF cy K N T d.1 Q d.2))) (va_A (va_pl L (wF cy K N T I Q J)) sz)) 0 0 (va_A (va_pl L (wF cy K N T I Q J)) sz) := by
  refine Met.ofW (cc := cX7_move) (maxL := 6) (ret := (some .int)) (by decide) rfl ?_
  intro p e s m args below meth c s₁ B hml hv
  obtain ⟨rfl, hsz, ⟨hP, hK⟩, hD0⟩ := hv
  have hx := B.exec
  have hb := B.bytes
  have hr := B.returns
  have hts := atoms_spec (ws := wsX7_move) B.pre
  have hown : s.vm.findClass RX7 = some m.cls := findClass_of_methodNamed B.named
  have hlocks := B.notSynchronized
  have hi7 : ∀ w ∈ wsX70, w ∈ wsX7_move := by decide +kernel
  have hl := lv_entry ([.ref (w 0), .int xg, .int xm, .int xr, .int xp, .int xo]) (n := 6) (Nat.le_of_ble_eq_true rfl)
  rw [lg_entry_eq]
  generalize (lg_sl ([.ref (w 0), .int xg, .int xm, .int xr, .int xp, .int xo]) ++ List.replicate (6 - (lg_sl ([.ref (w 0), .int xg, .int xm, .int xr, .int xp, .int xo])).length) Slot.unset).toArray = ls at hl ⊢
  have hl : lv_has ls 6 [(0, .ref (w 0)), (1, .int xg), (2, .int xm), (3, .int xr), (4, .int xp), (5, .int xo)] := hl
  subst hsz
  have hD := hD0.self (sz := s.heap.size)
  generalize hAe : va_A (va_pl L (wF cy K N T I Q J)) s.heap.size = A at hD ⊢
  have hA : ∀ q : Nat, s.heap.size ≤ q → A q := fun q h => by rw [← hAe]; exact Or.inr h
  have hS : va_S A s.heap s.heap [] := va_S.rf
  have hR : RM w [15] I J I J := RM.rf
  obtain ⟨hML, hMD, hMU⟩ := hI
  refine lv_iload hx hb dX7_move_0 (lv_at hl 5 rfl) ?_
  refine lv_if_lt (tgt := 26) hx hb dX7_move_2 (by decide) (fun c730001 => ?_) (fun c730001 => ?_)
  · have kc730001 : xo.toInt < 0 := by have h9 := c730001; rw [xk_lt, xk_0] at h9; exact h9
    refine lv_iconst (v := (-1)) hx hb dX7_move_26 (by decide) ?_
    exact W.iret (v := (-1)) hx hb hr (fun t ht hW => ⟨⟨(-1), (I, J), rfl, ⟨⟨hML.mono (by omega), hMD, hMU⟩, rfl, by show J = sp_mvM w J xg xp xo ((-1)); rw [sp_mvM, if_neg (by decide)], by show _ = _; have kc730001 := c730001; simp only [xk_eq, Int32.toInt_toInt64, xk_lt, xk_le, xk_0, xk_1, xk_2, xk_3, xk_4, xk_5, xk_6, xk_7, xk_8, xk_50, xl_0, xl_1, xl_3, xl_4, xl_5, xl_6, xl_7, xl_50] at kc730001; unfold sp_mvr; (repeat' split); all_goals first | rfl | (exfalso; omega)⟩, by rw [ht]; exact hP, va_K.moved hW.alike hK, hD⟩, hS.F ht⟩) hS.2.2 dX7_move_27
  · have kc730001 : ¬ (xo.toInt < 0) := by have h9 := c730001; rw [xk_lt, xk_0] at h9; exact h9
    refine lv_iload_n hx hb dX7_move_5 rfl (lv_at hl 1 rfl) ?_
    refine lv_i2l (v := xg.toInt64) hx hb dX7_move_6 rfl ?_
    refine lv_lconst (v := 0) hx hb dX7_move_7 (by decide) ?_
    refine lv_ldc2 hx hb hown (hts (.constantLong RX7 80 3) (by decide +kernel)) dX7_move_8 ?_
    refine vp_callSi (W.runS (As := [.long xg.toInt64, .long 0, .long 3]) (rest := []) ⟨hx, hb, hml, hown, hts⟩ (c_X7_in l xg.toInt64 0 3) (va_cwS 3 hts gX7_move_X7_in rfl rfl rfl (by decide +kernel) ⟨Nat.le_of_ble_eq_true rfl, Nat.le_of_ble_eq_true rfl⟩) preEq rfl rfl hl.1 rfl (lv_room (Nat.le_of_ble_eq_true rfl)) dX7_move_11 ⟨Nat.le_of_ble_eq_true rfl, Nat.le_of_ble_eq_true rfl⟩) (fun r730002 hr730002 => ?_)
    subst hr730002
    refine lv_if_eq (tgt := 26) hx hb dX7_move_14 (by decide) (fun c730003 => ?_) (fun c730003 => ?_)
    · refine lv_iconst (v := (-1)) hx hb dX7_move_26 (by decide) ?_
      exact W.iret (v := (-1)) hx hb hr (fun t ht hW => ⟨⟨(-1), (I, J), rfl, ⟨⟨hML.mono (by omega), hMD, hMU⟩, rfl, by show J = sp_mvM w J xg xp xo ((-1)); rw [sp_mvM, if_neg (by decide)], by show _ = _; have kc730001 := c730001; have kc730003 := (sp_in_0 xg 0 3).mp c730003; simp only [xk_eq, Int32.toInt_toInt64, xk_lt, xk_le, xk_0, xk_1, xk_2, xk_3, xk_4, xk_5, xk_6, xk_7, xk_8, xk_50, xl_0, xl_1, xl_3, xl_4, xl_5, xl_6, xl_7, xl_50] at kc730001 kc730003; unfold sp_mvr; (repeat' split); all_goals first | rfl | (exfalso; omega)⟩, by rw [ht]; exact hP, va_K.moved hW.alike hK, hD⟩, hS.F ht⟩) hS.2.2 dX7_move_27
    · have hin730004 : vp_in xg 4 := xin_sp c730003 (by decide)
      refine lv_aload_n hx hb dX7_move_17 rfl (lv_at hl 0 rfl) ?_
      refine lv_iload hx hb dX7_move_18 (lv_at hl 4 rfl) ?_
      obtain ⟨j730006, hj730006⟩ := wG_7 (cy := cy) (N := N) (T := T) (I := I) (Q := Q) (J := J) (hM.at 0 (by decide)) (hM.k 0 (by decide) rfl)
      refine vp_callSi (W.runV (As := [.int xp]) (rest := []) ⟨hx, hb, hml, hown, hts⟩ (c_X7_isThere l dC dI cy w L K N T Q I J xp hM) (cwV 1 hts gX7_move_X7_isThere rfl rfl rfl (by decide +kernel) ⟨Nat.le_of_ble_eq_true rfl, Nat.le_of_ble_eq_true rfl⟩) ⟨mb_blind, va_recv hK hP (ci := 7) (q0 := j730006) rfl hj730006, fun U hU hW => ⟨rfl, mb_pre hP hK hU hW⟩⟩ rfl rfl hl.1 rfl (lv_room (Nat.le_of_ble_eq_true rfl)) dX7_move_20 ⟨Nat.le_of_ble_eq_true rfl, Nat.le_of_ble_eq_true rfl⟩) (fun r730005 hr730005 => ?_)
      refine lv_if_ne (tgt := 28) hx hb dX7_move_23 (by decide) (fun c730007 => ?_) (fun c730007 => ?_)
      · have hth730008 := sp_it1 (by rw [← hr730005]; exact c730007)
        have kc730007 : ¬ (r730005.toInt = 0) := by have h9 := c730007; rw [xk_eq, xk_0] at h9; exact h9
        refine lv_iload_n hx hb dX7_move_28 rfl (lv_at hl 2 rfl) ?_
        refine lv_i2l (v := xm.toInt64) hx hb dX7_move_29 rfl ?_
        refine lv_lconst (v := 0) hx hb dX7_move_30 (by decide) ?_
        refine lv_ldc2 hx hb hown (hts (.constantLong RX7 173 7) (by decide +kernel)) dX7_move_31 ?_
        refine vp_callSi (W.runS (As := [.long xm.toInt64, .long 0, .long 7]) (rest := []) ⟨hx, hb, hml, hown, hts⟩ (c_X7_in l xm.toInt64 0 7) (va_cwS 3 hts gX7_move_X7_in rfl rfl rfl (by decide +kernel) ⟨Nat.le_of_ble_eq_true rfl, Nat.le_of_ble_eq_true rfl⟩) preEq rfl rfl hl.1 rfl (lv_room (Nat.le_of_ble_eq_true rfl)) dX7_move_34 ⟨Nat.le_of_ble_eq_true rfl, Nat.le_of_ble_eq_true rfl⟩) (fun r730009 hr730009 => ?_)
        subst hr730009
        refine lv_if_eq (tgt := 61) hx hb dX7_move_37 (by decide) (fun c730010 => ?_) (fun c730010 => ?_)
        · refine lv_bipush (v := (-4)) hx hb dX7_move_61 (by decide) ?_
          exact W.iret (v := (-4)) hx hb hr (fun t ht hW => ⟨⟨(-4), (I, J), rfl, ⟨⟨hML.mono (by omega), hMD, hMU⟩, rfl, by show J = sp_mvM w J xg xp xo ((-4)); rw [sp_mvM, if_neg (by decide)], by show _ = _; have kc730001 := c730001; have kc730003 := (not_congr (sp_in_0 xg 0 3)).mp c730003; have kc730010 := (sp_in_0 xm 0 7).mp c730010; simp only [xk_eq, Int32.toInt_toInt64, xk_lt, xk_le, xk_0, xk_1, xk_2, xk_3, xk_4, xk_5, xk_6, xk_7, xk_8, xk_50, xl_0, xl_1, xl_3, xl_4, xl_5, xl_6, xl_7, xl_50] at kc730001 kc730003 kc730010; have h8 := vp_in_iff.mp hth730008.1; rw [sp_mvr, if_pos ⟨by omega, by omega⟩, if_pos ⟨by omega, by omega⟩, if_neg (fun q => hth730008.2 (zN_0.mp q)), if_neg (by omega)]; rw [if_neg (fun q => by rcases sp_ma_cs (J (w 13) xg.toNatClampNeg) (sp_cnt (fun q => zN (J (w 2) q)) xp.toNatClampNeg) with z | ⟨j, hj, z⟩; (rw [z] at q; have q1 := q.1; rw [q.2.1] at q1; exact absurd q1 (by decide)); rw [z] at q; have q1 := congrArg Int32.toInt q.2.1; rw [nI_toInt (by omega)] at q1; omega)]⟩, by rw [ht]; exact hP, va_K.moved hW.alike hK, hD⟩, hS.F ht⟩) hS.2.2 dX7_move_63
        · have hin730011 : vp_in xm 8 := xin_sp c730010 (by decide)
          refine lv_aload_n hx hb dX7_move_40 rfl (lv_at hl 0 rfl) ?_
          refine lv_iload_n hx hb dX7_move_41 rfl (lv_at hl 1 rfl) ?_
          refine lv_iload hx hb dX7_move_42 (lv_at hl 4 rfl) ?_
          obtain ⟨j730013, hj730013⟩ := wG_7 (cy := cy) (N := N) (T := T) (I := I) (Q := Q) (J := J) (hM.at 0 (by decide)) (hM.k 0 (by decide) rfl)
          refine vp_callSi (W.runV (As := [.int xg, .int xp]) (rest := []) ⟨hx, hb, hml, hown, hts⟩ (e_X7_owner l dC dI cy w L K N T Q I J xg xp hM) (cwV 2 hts gX7_move_X7_owner rfl rfl rfl (by decide +kernel) ⟨Nat.le_of_ble_eq_true rfl, Nat.le_of_ble_eq_true rfl⟩) ⟨mb_blind, va_recv hK hP (ci := 7) (q0 := j730013) rfl hj730013, fun U hU hW => ⟨rfl, mb_pre hP hK hU hW⟩⟩ rfl rfl hl.1 rfl (lv_room (Nat.le_of_ble_eq_true rfl)) dX7_move_44 ⟨Nat.le_of_ble_eq_true rfl, Nat.le_of_ble_eq_true rfl⟩) (fun r730012 hr730012 => ?_)
          refine lv_iload_n hx hb dX7_move_47 rfl (lv_at hl 2 rfl) ?_
          refine lv_icmp_ne (tgt := 61) hx hb dX7_move_48 (by decide) (fun c730014 => ?_) (fun c730014 => ?_)
          · have kc730014 : ¬ (r730012.toInt = xm.toInt) := by have h9 := c730014; rw [xk_eq] at h9; exact h9
            refine lv_bipush (v := (-4)) hx hb dX7_move_61 (by decide) ?_
            exact W.iret (v := (-4)) hx hb hr (fun t ht hW => ⟨⟨(-4), (I, J), rfl, ⟨⟨hML.mono (by omega), hMD, hMU⟩, rfl, by show J = sp_mvM w J xg xp xo ((-4)); rw [sp_mvM, if_neg (by decide)], by show _ = _; have kc730001 := c730001; have kc730003 := (not_congr (sp_in_0 xg 0 3)).mp c730003; have kc730010 := (not_congr (sp_in_0 xm 0 7)).mp c730010; simp only [xk_eq, Int32.toInt_toInt64, xk_lt, xk_le, xk_0, xk_1, xk_2, xk_3, xk_4, xk_5, xk_6, xk_7, xk_8, xk_50, xl_0, xl_1, xl_3, xl_4, xl_5, xl_6, xl_7, xl_50] at kc730001 kc730003 kc730010; have h8 := vp_in_iff.mp hth730008.1; rw [sp_mvr, if_pos ⟨by omega, by omega⟩, if_pos ⟨by omega, by omega⟩, if_neg (fun q => hth730008.2 (zN_0.mp q)), if_neg (by omega)]; have h7 := hr730012; rw [sp_own, if_pos ⟨by omega, by omega⟩, if_pos ⟨by omega, by omega⟩, if_neg (fun q => hth730008.2 (zN_0.mp q))] at h7; rw [if_neg (fun q => c730014 (by rw [h7, ← q.2.1]; unfold sp_ow1; rw [if_neg (fun z => by have z := congrArg Int32.toInt z; rw [show (-1 : Int32).toInt = -1 by decide] at z; omega)]))]⟩, by rw [ht]; exact hP, va_K.moved hW.alike hK, hD⟩, hS.F ht⟩) hS.2.2 dX7_move_63
          · have kc730014 : r730012.toInt = xm.toInt := by have h9 := c730014; rw [xk_eq] at h9; exact h9
            refine lv_aload_n hx hb dX7_move_51 rfl (lv_at hl 0 rfl) ?_
            obtain ⟨j730015, hj730015⟩ := wG_7 (cy := cy) (N := N) (T := T) (I := I) (Q := Q) (J := J) (hM.at 0 (by decide)) (hM.k 0 (by decide) rfl)
            refine va_get (D := (dC, dI)) (ci := 7) (v := .ref (T (w 0) 13)) (C := RX7) (T := TX7) (N := 18) hx hb hts hi7 hown hK hP j730015 hj730015 rfl 13 (by decide) (hts (.fieldLink RX7 52 "TallyLogsModel" "round" "[I") (by decide +kernel)) (fun _ h9 => h9) rfl dX7_move_52 ?_
            refine W.eq (g2 := F0 m 55 ls [.ref (w 14)]) (by rw [hM.t 13 (by decide)]) ?_
            refine lv_iload_n hx hb dX7_move_55 rfl (lv_at hl 1 rfl) ?_
            obtain ⟨j730016, hj730016⟩ := wG_20 (cy := cy) (N := N) (T := T) (I := I) (Q := Q) (J := J) (hM.at 14 (by decide)) (hM.k 14 (by decide) rfl)
            refine va_iald hx hb hK hP j730016 1 hj730016 rfl (hM.inN (n := 4) 14 (by decide) rfl rfl hin730004) dX7_move_56 ?_
            refine lv_topi (fun x730017 ex730017 => ?_)
            refine lv_iload_n hx hb dX7_move_57 rfl (lv_at hl 3 rfl) ?_
            refine lv_icmp_eq (tgt := 64) hx hb dX7_move_58 (by decide) (fun c730018 => ?_) (fun c730018 => ?_)
            · have kc730018 : x730017.toInt = xr.toInt := by have h9 := c730018; rw [xk_eq] at h9; exact h9
              refine lv_aload_n hx hb dX7_move_64 rfl (lv_at hl 0 rfl) ?_
              obtain ⟨j730019, hj730019⟩ := wG_7 (cy := cy) (N := N) (T := T) (I := I) (Q := Q) (J := J) (hM.at 0 (by decide)) (hM.k 0 (by decide) rfl)
              refine va_get (D := (dC, dI)) (ci := 7) (v := .ref (T (w 0) 14)) (C := RX7) (T := TX7) (N := 18) hx hb hts hi7 hown hK hP j730019 hj730019 rfl 14 (by decide) (hts (.fieldLink RX7 55 "TallyLogsModel" "position" "[I") (by decide +kernel)) (fun _ h9 => h9) rfl dX7_move_65 ?_
              refine W.eq (g2 := F0 m 68 ls [.ref (w 15)]) (by rw [hM.t 14 (by decide)]) ?_
              refine lv_iconst (v := 4) hx hb dX7_move_68 (by decide) ?_
              refine lv_iload_n hx hb dX7_move_69 rfl (lv_at hl 1 rfl) ?_
              refine lv_imul hx hb dX7_move_70 ?_
              refine lv_topi (fun v730020 ev730020 => ?_)
              refine lv_iload hx hb dX7_move_71 (lv_at hl 4 rfl) ?_
              refine lv_iadd hx hb dX7_move_73 ?_
              refine lv_topi (fun v730021 ev730021 => ?_)
              have tv730020 : v730020.toInt = 4 * xg.toInt := by rw [ev730020]; have := vp_in_iff.mp hin730004; exact xmul4 (by omega) (by omega)
              have hin730022 : vp_in v730021 16 := by have h8 := vp_in_iff.mp hin730004; have h9 := vp_in_iff.mp hth730008.1; rw [ev730021]; exact xin_of (by rw [xadd (by omega) (by omega)]; omega) (by rw [xadd (by omega) (by omega)]; omega)
              refine lv_iload hx hb dX7_move_74 (lv_at hl 5 rfl) ?_
              obtain ⟨j730023, hj730023⟩ := wG_20 (cy := cy) (N := N) (T := T) (I := I) (Q := Q) (J := J) (hM.at 15 (by decide)) (hM.k 15 (by decide) rfl)
              have hDo := hD
              refine va_iast (x := xo) hx hb hK hP hD hS j730023 1 hj730023 rfl (hM.inN (n := 16) 15 (by decide) rfl rfl hin730022) dX7_move_76 (fun H locs hP hD hS => ?_)
              have hP := Eq.mp (congrArg (fun w => va_P (dC, dI) vwCl w H) (wS_20 hDo (hM.at 15 (by decide)) (hM.k 15 (by decide) rfl) hj730023)) hP
              obtain ⟨J730024, eJ730024⟩ : ∃ z, z = va_up J (w 15) (upd (J (w 15)) v730021.toNatClampNeg xo) := ⟨_, rfl⟩
              rw [← eJ730024] at hP
              have hR : RM w [15] I J I J730024 := by rw [eJ730024]; exact hR.pj hM (by decide) (by decide)
              have hMD : MD w J730024 := by rw [eJ730024]; exact hMD.pj hM (by decide) (by decide)
              have hD : va_D A (va_pl L (wF cy K N T I Q J730024)) := pD hDo
              refine lv_iconst (v := 0) hx hb dX7_move_77 (by decide) ?_
              exact W.iret (v := 0) hx hb hr (fun t ht hW => ⟨⟨0, (I, J730024), rfl, ⟨⟨hML.mono (by omega), hMD, hMU⟩, rfl, by show J730024 = sp_mvM w J xg xp xo 0; have h8 := vp_in_iff.mp hth730008.1; have h7 := vp_in_iff.mp hin730004; have e9 : v730021.toNatClampNeg = 4 * xg.toNatClampNeg + xp.toNatClampNeg := (by have e8 : v730021.toInt = 4 * xg.toInt + xp.toInt := (by rw [ev730021, xadd (by omega) (by omega), tv730020]); have e7 := xcl hin730022; have e6 := xcl hth730008.1; have e5 := xcl hin730004; omega); rw [sp_mvM, if_pos rfl, eJ730024, e9], by show _ = _; have kc730001 := c730001; have kc730003 := (not_congr (sp_in_0 xg 0 3)).mp c730003; have kc730010 := (not_congr (sp_in_0 xm 0 7)).mp c730010; simp only [xk_eq, Int32.toInt_toInt64, xk_lt, xk_le, xk_0, xk_1, xk_2, xk_3, xk_4, xk_5, xk_6, xk_7, xk_8, xk_50, xl_0, xl_1, xl_3, xl_4, xl_5, xl_6, xl_7, xl_50] at kc730001 kc730003 kc730010; have h8 := vp_in_iff.mp hth730008.1; rw [sp_mvr, if_pos ⟨by omega, by omega⟩, if_pos ⟨by omega, by omega⟩, if_neg (fun q => hth730008.2 (zN_0.mp q)), if_neg (by omega)]; have h7 := hr730012; rw [sp_own, if_pos ⟨by omega, by omega⟩, if_pos ⟨by omega, by omega⟩, if_neg (fun q => hth730008.2 (zN_0.mp q))] at h7; rw [if_pos ⟨by omega, by have h6 : sp_ow1 (sp_ma (J (w 13) xg.toNatClampNeg) (sp_cnt (fun q => zN (J (w 2) q)) xp.toNatClampNeg)) = xm := h7.symm.trans (c730014); rcases sp_ma_cs (J (w 13) xg.toNatClampNeg) (sp_cnt (fun q => zN (J (w 2) q)) xp.toNatClampNeg) with z | ⟨j, hj, z⟩; (rw [z] at h6; have h5 := congrArg Int32.toInt h6; rw [show (sp_ow1 (-1)).toInt = -2 by decide] at h5; omega); rw [z, sp_ow1_k hj] at h6; rw [z]; exact h6.symm, by rw [← ex730017]; exact c730018.symm⟩]⟩, by rw [ht]; exact hP, va_K.moved hW.alike hK, hD⟩, hS.F ht⟩) hS.2.2 dX7_move_78
            · have kc730018 : ¬ (x730017.toInt = xr.toInt) := by have h9 := c730018; rw [xk_eq] at h9; exact h9
              refine lv_bipush (v := (-4)) hx hb dX7_move_61 (by decide) ?_
              exact W.iret (v := (-4)) hx hb hr (fun t ht hW => ⟨⟨(-4), (I, J), rfl, ⟨⟨hML.mono (by omega), hMD, hMU⟩, rfl, by show J = sp_mvM w J xg xp xo ((-4)); rw [sp_mvM, if_neg (by decide)], by show _ = _; have kc730001 := c730001; have kc730003 := (not_congr (sp_in_0 xg 0 3)).mp c730003; have kc730010 := (not_congr (sp_in_0 xm 0 7)).mp c730010; simp only [xk_eq, Int32.toInt_toInt64, xk_lt, xk_le, xk_0, xk_1, xk_2, xk_3, xk_4, xk_5, xk_6, xk_7, xk_8, xk_50, xl_0, xl_1, xl_3, xl_4, xl_5, xl_6, xl_7, xl_50] at kc730001 kc730003 kc730010; have h8 := vp_in_iff.mp hth730008.1; rw [sp_mvr, if_pos ⟨by omega, by omega⟩, if_pos ⟨by omega, by omega⟩, if_neg (fun q => hth730008.2 (zN_0.mp q)), if_neg (by omega)]; rw [if_neg (fun q => c730018 (by rw [ex730017]; exact q.2.2.symm))]⟩, by rw [ht]; exact hP, va_K.moved hW.alike hK, hD⟩, hS.F ht⟩) hS.2.2 dX7_move_63
      · have kc730007 : r730005.toInt = 0 := by have h9 := c730007; rw [xk_eq, xk_0] at h9; exact h9
        refine lv_iconst (v := (-1)) hx hb dX7_move_26 (by decide) ?_
        exact W.iret (v := (-1)) hx hb hr (fun t ht hW => ⟨⟨(-1), (I, J), rfl, ⟨⟨hML.mono (by omega), hMD, hMU⟩, rfl, by show J = sp_mvM w J xg xp xo ((-1)); rw [sp_mvM, if_neg (by decide)], by show _ = _; have kc730001 := c730001; have kc730003 := (not_congr (sp_in_0 xg 0 3)).mp c730003; simp only [xk_eq, Int32.toInt_toInt64, xk_lt, xk_le, xk_0, xk_1, xk_2, xk_3, xk_4, xk_5, xk_6, xk_7, xk_8, xk_50, xl_0, xl_1, xl_3, xl_4, xl_5, xl_6, xl_7, xl_50] at kc730001 kc730003; have h9 := sp_it0 (hr730005.symm.trans c730007); rw [sp_mvr, if_pos ⟨by omega, by omega⟩]; by_cases hp : 0 ≤ xp.toInt ∧ xp.toInt < 4; (rw [if_pos hp, if_pos (zN_0.mpr (Classical.byContradiction fun q => h9 ⟨hp.1, hp.2, q⟩))]); rw [if_neg hp]⟩, by rw [ht]; exact hP, va_K.moved hW.alike hK, hD⟩, hS.F ht⟩) hS.2.2 dX7_move_27
