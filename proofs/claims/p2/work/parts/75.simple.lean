/-! the simple state as words: registers, groups, positions, what is there -/
def sp_r6 (k : Int32) : Prop := 0 ≤ k.toInt ∧ k.toInt < 6
def sp_r4 (k : Int32) : Prop := 0 ≤ k.toInt ∧ k.toInt < 4
def sp_rgr (x k : Int32) : Int32 := if 0 ≤ k.toInt ∧ k.toInt < 6 then 8 * (x + 1) + k else (-1)
def sp_rgI (v : Nat → Nat) (I : Nat → Nat → Int32) (k : Int32) : Nat → Nat → Int32 := if 0 ≤ k.toInt ∧ k.toInt < 6 then p2 I (v (4 + k.toNatClampNeg)) 1 (I (v (4 + k.toNatClampNeg)) 1 + 1) else I
def sp_rgJ (w : Nat → Nat) (J : Nat → Nat → Int32) (k : Int32) : Nat → Nat → Int32 := if 0 ≤ k.toInt ∧ k.toInt < 6 then va_up J (w 8) (upd (J (w 8)) k.toNatClampNeg (J (w 8) k.toNatClampNeg + 1)) else J
def sp_mbr (x g m : Int32) : Int32 := if (0 ≤ g.toInt ∧ g.toInt < 4) ∧ 0 ≤ m.toInt ∧ m.toInt < 8 then x + 1 else (-1)
def sp_mbI (v : Nat → Nat) (I : Nat → Nat → Int32) (g m : Int32) : Nat → Nat → Int32 := if (0 ≤ g.toInt ∧ g.toInt < 4) ∧ 0 ≤ m.toInt ∧ m.toInt < 8 then p2 (p2 I (v (10 + g.toNatClampNeg)) 0 (I (v (10 + g.toNatClampNeg)) 0 ^^^ (1 <<< (m &&& 31)))) (v (10 + g.toNatClampNeg)) 1 (I (v (10 + g.toNatClampNeg)) 1 + 1) else I
def sp_mbJ (w : Nat → Nat) (J : Nat → Nat → Int32) (g m : Int32) : Nat → Nat → Int32 := if (0 ≤ g.toInt ∧ g.toInt < 4) ∧ 0 ≤ m.toInt ∧ m.toInt < 8 then va_up (va_up J (w 13) (upd (J (w 13)) g.toNatClampNeg (J (w 13) g.toNatClampNeg ^^^ (1 <<< (m &&& 31))))) (w 14) (upd (J (w 14)) g.toNatClampNeg (J (w 14) g.toNatClampNeg + 1)) else J
/-- how many of the first n are there -/
def sp_cnt (t : Nat → Int32) : Nat → Int32
  | 0 => 0
  | n + 1 => sp_cnt t n + t n
def oN (o : Option Nat) : Int32 := match o with
  | none => 0
  | some _ => 1
def zN (x : Int32) : Int32 := if x = 0 then 0 else 1
/-- the members from k on, n of them: the one with y before it -/
def sp_ml (mb : Int32) : Nat → Nat → Int32 → Int32
  | 0, _, _ => (-1)
  | n + 1, k, y => if (mb >>> (nI k &&& 31)) &&& 1 = 1 then (if y = 0 then nI k else sp_ml mb n (k + 1) (y - 1)) else sp_ml mb n (k + 1) y
def sp_ma (mb q : Int32) : Int32 := if sp_bc mb = 0 then (-1) else sp_ml mb 8 0 (q - q / sp_bc mb * sp_bc mb)
theorem sp_ml_cs (mb : Int32) : ∀ (n k : Nat) (y : Int32), k + n ≤ 8 → sp_ml mb n k y = (-1) ∨ ∃ j : Nat, j < 8 ∧ sp_ml mb n k y = nI j := by
  intro n
  induction n with
  | zero => intro k y _; exact Or.inl rfl
  | succ n ih =>
    intro k y hn
    unfold sp_ml
    by_cases h : (mb >>> (nI k &&& 31)) &&& 1 = 1
    · rw [if_pos h]
      by_cases hy : y = 0
      · rw [if_pos hy]; exact Or.inr ⟨k, by omega, rfl⟩
      · rw [if_neg hy]; exact ih _ _ (by omega)
    · rw [if_neg h]; exact ih _ _ (by omega)
theorem sp_ml_1 {mb : Int32} {n k : Nat} {y : Int32} (h : (mb >>> (nI k &&& 31)) &&& 1 = 1) (hy : y = 0) : sp_ml mb (n + 1) k y = nI k := by
  rw [sp_ml, if_pos h, if_pos hy]
theorem sp_ml_2 {mb : Int32} {n k : Nat} {y : Int32} (h : (mb >>> (nI k &&& 31)) &&& 1 = 1) (hy : ¬ y = 0) : sp_ml mb (n + 1) k y = sp_ml mb n (k + 1) (y - 1) := by
  rw [sp_ml, if_pos h, if_neg hy]
theorem sp_ml_3 {mb : Int32} {n k : Nat} {y : Int32} (h : ¬ (mb >>> (nI k &&& 31)) &&& 1 = 1) : sp_ml mb (n + 1) k y = sp_ml mb n (k + 1) y := by
  rw [sp_ml, if_neg h]
theorem sp_cn8 {mb : Int32} {k : Nat} (hk : k < 8) : sp_cn mb (nI k) = if (mb >>> (nI k &&& 31)) &&& 1 = 1 then 1 else 0 := by
  unfold sp_cn
  rw [if_neg (nI_pos (by omega)), if_neg (show ¬ (8 : Int32) ≤ nI k from nI_ge (b := 8) hk (by decide))]
theorem sp_cn8_0 {mb : Int32} {k : Nat} (hk : k < 8) (h : sp_cn mb (nI k) = 0) : ¬ (mb >>> (nI k &&& 31)) &&& 1 = 1 := fun q => by
  rw [sp_cn8 hk, if_pos q] at h
  exact absurd h (by decide)
theorem sp_cn8_1 {mb : Int32} {k : Nat} (hk : k < 8) (h : ¬ sp_cn mb (nI k) = 0) : (mb >>> (nI k &&& 31)) &&& 1 = 1 := by
  by_cases q : (mb >>> (nI k &&& 31)) &&& 1 = 1
  · exact q
  · rw [sp_cn8 hk, if_neg q] at h
    exact absurd rfl h
theorem sp_ma_cs (mb q : Int32) : sp_ma mb q = (-1) ∨ ∃ j : Nat, j < 8 ∧ sp_ma mb q = nI j := by
  unfold sp_ma
  by_cases h : sp_bc mb = 0
  · rw [if_pos h]; exact Or.inl rfl
  · rw [if_neg h]; exact sp_ml_cs mb 8 0 _ (by decide)
/-- owner of partition p (its place is q) -/
def sp_ow1 (x : Int32) : Int32 := if x = (-1) then (-2) else x
def sp_own (mb : Int32) (t : Nat → Int32) (g p : Int32) : Int32 := if 0 ≤ g.toInt ∧ g.toInt < 4 then (if 0 ≤ p.toInt ∧ p.toInt < 4 then (if t p.toNatClampNeg = 0 then (-1) else sp_ow1 (sp_ma mb (sp_cnt t p.toNatClampNeg))) else (-1)) else (-1)
def sp_pos (x : Int32) (t : Nat → Int32) (g p : Int32) : Int32 := if 0 ≤ g.toInt ∧ g.toInt < 4 then (if 0 ≤ p.toInt ∧ p.toInt < 4 then (if t p.toNatClampNeg = 0 then (-1) else x) else (-1)) else (-1)
/-- move: whether it is refused, wrong, or done -/
def sp_mvr (mb rd : Int32) (t : Nat → Int32) (g m r p o : Int32) : Int32 := if 0 ≤ g.toInt ∧ g.toInt < 4 then (if 0 ≤ p.toInt ∧ p.toInt < 4 then (if t p.toNatClampNeg = 0 then (-1) else if o.toInt < 0 then (-1) else if 0 ≤ m.toInt ∧ m = sp_ma mb (sp_cnt t p.toNatClampNeg) ∧ r = rd then 0 else (-4)) else (-1)) else (-1)
/-- create: its answer; 0 and up: it is made -/
def sp_cer (u th : Int32) (p r l : Int32) : Int32 := if 0 ≤ p.toInt ∧ p.toInt < 4 then (if th = 0 then (if 1 ≤ l.toInt ∧ l.toInt ≤ (sp_bc (r &&& 31)).toInt then (if (r &&& 31) &&& u = 0 then (-2) else sp_lo ((r &&& 31) &&& u)) else (-1)) else (-1)) else (-1)
/-- the answer of partitionAt: null, or what lies at that place -/
def pPa (v : Nat → Nat) (Q : Nat → Nat → Option Nat) (p : Int32) (r : Option Nat) : Prop := (¬ (0 ≤ p.toInt ∧ p.toInt < 4) ∧ r = none) ∨ ∃ j : Nat, j < 4 ∧ p = nI j ∧ r = Q (v 1) j
theorem oN_0 {o : Option Nat} : oN o = 0 ↔ o = none := by
  cases o with
  | none => exact ⟨fun _ => rfl, fun _ => rfl⟩
  | some b => exact ⟨fun h => absurd h (by show ¬ (1 : Int32) = 0; decide), fun h => by cases h⟩
def sp_mvJ (v : Nat → Nat) (J : Nat → Nat → Int32) (g p o r : Int32) : Nat → Nat → Int32 := if r = 0 then va_up J (v (14 + g.toNatClampNeg)) (upd (J (v (14 + g.toNatClampNeg))) p.toNatClampNeg o) else J
def sp_mvM (w : Nat → Nat) (J : Nat → Nat → Int32) (g p o r : Int32) : Nat → Nat → Int32 := if r = 0 then va_up J (w 15) (upd (J (w 15)) (4 * g.toNatClampNeg + p.toNatClampNeg) o) else J
/-- whether create makes a partition -/
abbrev sp_ck (u th p r l : Int32) : Prop := (0 ≤ p.toInt ∧ p.toInt < 4) ∧ th = 0 ∧ (1 ≤ l.toInt ∧ l.toInt ≤ (sp_bc (r &&& 31)).toInt) ∧ ¬ (r &&& 31) &&& u = 0
theorem p2_self {α : Type} (I : Nat → Nat → α) (a f : Nat) : p2 I a f (I a f) = I := by
  funext b g
  by_cases h : b = a ∧ g = f
  · obtain ⟨rfl, rfl⟩ := h; exact p2_at _ _ _ _
  · exact p2_ne _ _ h
section XS
variable {v : Nat → Nat} {L : List Nat} {K N : Nat → Nat} {T : Nat → Nat → Nat} {I I0 : Nat → Nat → Int32} {Q Q0 : Nat → Nat → Option Nat} {J J0 : Nat → Nat → Int32}
theorem RS.q10 (h : RS v I0 Q0 J0 I Q J) {i : Nat} {y : Option Nat} : RS v I0 (p2 Q0 (v 1) i y) J0 I (p2 Q (v 1) i y) J := by
  refine ⟨h.1, h.2.1, h.2.2.1, h.2.2.2.1, fun p hp => ?_⟩
  by_cases e : p = i
  · subst e; rw [p2_at, p2_at]
  · rw [p2_ne _ _ (fun z => e z.2), p2_ne _ _ (fun z => e z.2)]; exact h.2.2.2.2 p hp
end XS
section XM
variable {w : Nat → Nat} {I J I' J' J1 : Nat → Nat → Int32} {ex : List Nat}
theorem RM.re (h : RM w ex I J I' J') (hJ : ∀ k, (k = 2 ∨ k = 8 ∨ k = 13 ∨ k = 14 ∨ k = 15) → ¬ k ∈ ex → J1 (w k) = J (w k)) (he : ∀ k, (k = 2 ∨ k = 8 ∨ k = 13 ∨ k = 14 ∨ k = 15) → k ∈ ex → J' (w k) = J1 (w k)) : RM w [] I J1 I' J' :=
  ⟨h.1, fun k hk _ => by
    by_cases e : k ∈ ex
    · exact he k hk e
    · exact (h.2 k hk e).trans (hJ k hk e).symm⟩
theorem RM.no (h : RM w ex I J I' J') (he : ∀ k, (k = 2 ∨ k = 8 ∨ k = 13 ∨ k = 14 ∨ k = 15) → k ∈ ex → J' (w k) = J (w k)) : RM w [] I J I' J' := h.re (fun _ _ _ => rfl) he
end XM
set_option maxHeartbeats 4000000 in
set_option maxRecDepth 100000 in
/-- register -/
theorem e_X5_register (l : Launch) (dC : Nat → ClassId) (dI : Nat → Nat → Nat) (cy : Nat → ClassId) (v : Nat → Nat) (L : List Nat) (K N : Nat → Nat) (T : Nat → Nat → Nat) (I : Nat → Nat → Int32) (Q : Nat → Nat → Option Nat) (J : Nat → Nat → Int32) (sz : Nat) (xk : Int32) (hC : CT v L K N T I Q) : Met l yX5_register wsX5_register ({ frames := 1, cells := 0, slots := 0, locals := 21 }) (va_Pc [.ref (v 0), .int xk] (pW dC dI cy L (pF cy K N T I Q J) sz)) (va_Qi (fun (r : Int32) (d : (Nat → Nat → Int32) × (Nat → Nat → Option Nat) × (Nat → Nat → Int32)) => (CT v L K N T d.1 d.2.1 ∧ RS v (sp_rgI v I xk) Q J d.1 d.2.1 d.2.2) ∧ r = sp_rgr (I (v (4 + xk.toNatClampNeg)) 1) xk) (fun (d : (Nat → Nat → Int32) × (Nat → Nat → Option Nat) × (Nat → Nat → Int32)) t => va_P (dC, dI) vwCl (va_pl L (pF cy K N T d.1 d.2.1 d.2.2)) t.heap ∧ va_K (dC, dI) vwCl (pTy cy) t ∧ va_D (va_A (va_pl L (pF cy K N T I Q J)) sz) (va_pl L (pF cy K N T d.1 d.2.1 d.2.2))) (va_A (va_pl L (pF cy K N T I Q J)) sz)) 0 0 (va_A (va_pl L (pF cy K N T I Q J)) sz) := by
  refine Met.ofW (cc := cX5_register) (maxL := 3) (ret := (some .int)) (by decide) rfl ?_
  intro p e s m args below meth c s₁ B hml hv
  obtain ⟨rfl, hsz, ⟨hP, hK, hN⟩, hD0⟩ := hv
  have hx := B.exec
  have hb := B.bytes
  have hr := B.returns
  have hts := atoms_spec (ws := wsX5_register) B.pre
  have hown : s.vm.findClass RX5 = some m.cls := findClass_of_methodNamed B.named
  have hlocks := B.notSynchronized
  have hi5 : ∀ w ∈ wsX50, w ∈ wsX5_register := by decide +kernel
  have hi3 : ∀ w ∈ wsX30, w ∈ wsX5_register := by decide +kernel
  have hl := lv_entry ([.ref (v 0), .int xk]) (n := 3) (Nat.le_of_ble_eq_true rfl)
  rw [lg_entry_eq]
  generalize (lg_sl ([.ref (v 0), .int xk]) ++ List.replicate (3 - (lg_sl ([.ref (v 0), .int xk])).length) Slot.unset).toArray = ls at hl ⊢
  have hl : lv_has ls 3 [(0, .ref (v 0)), (1, .int xk)] := hl
  subst hsz
  have hD := hD0.self (sz := s.heap.size)
  generalize hAe : va_A (va_pl L (pF cy K N T I Q J)) s.heap.size = A at hD ⊢
  have hA : ∀ q : Nat, s.heap.size ≤ q → A q := fun q h => by rw [← hAe]; exact Or.inr h
  have hS : va_S A s.heap s.heap [] := va_S.rf
  have hR : RS v I Q J I Q J := RS.rf
  have hn28 := hN.1
  have hn30 := hN.2.1
  have hn37 := hN.2.2.1
  refine lv_aload_n hx hb dX5_register_0 rfl (lv_at hl 0 rfl) ?_
  refine lv_iload_n hx hb dX5_register_1 rfl (lv_at hl 1 rfl) ?_
  obtain ⟨j100002, hj100002⟩ := pG_5 (cy := cy) (N := N) (T := T) (I := I) (Q := Q) (J := J) (hC.at 0 (by decide)) (hC.k 0 (by decide) rfl)
  refine va_csq (W.runV (As := [.int xk]) (rest := []) ⟨hx, hb, hml, hown, hts⟩ (c_X5_producerAt l dC dI cy v L K N T I Q J  xk hC) (cwV 1 hts gX5_register_X5_producerAt rfl rfl rfl (by decide +kernel) ⟨Nat.le_of_ble_eq_true rfl, Nat.le_of_ble_eq_true rfl⟩) ⟨pb_blind, va_recv hK hP (ci := 5) (q0 := j100002) rfl hj100002, fun U hU hW => ⟨rfl, pb_pre hP hK hN hU hW⟩⟩ rfl rfl hl.1 rfl (lv_room (Nat.le_of_ble_eq_true rfl)) dX5_register_2 ⟨Nat.le_of_ble_eq_true rfl, Nat.le_of_ble_eq_true rfl⟩) (fun r100001 hr100001 => ?_)
  rcases hr100001 with ⟨hn100003, rfl⟩ | ⟨j100003, hj100003, hn100003, rfl⟩
  · refine W.eq (g2 := F0 m 5 ls [.null]) rfl ?_
    refine lv_astore_nN (lv' := [(2, .null), (0, .ref (v 0)), (1, .int xk)]) hx hb dX5_register_5 rfl hl (by decide) rfl (fun ls hl => ?_)
    refine lv_aload_nN hx hb dX5_register_6 rfl (lv_at hl 0 rfl) ?_
    refine lv_ifnonnullN hx hb dX5_register_7 ?_
    refine lv_iconst (v := (-1)) hx hb dX5_register_10 (by decide) ?_
    exact W.iret (v := (-1)) hx hb hr (fun t ht hW => ⟨⟨(-1), (I, Q, J), rfl, ⟨⟨hC, by rw [sp_rgI, if_neg (fun q => hn100003 ⟨by omega, by omega⟩)]; exact hR⟩, by show _ = _; rw [sp_rgr, if_neg (fun q => hn100003 ⟨by omega, by omega⟩)]⟩, by rw [ht]; exact hP, va_K.moved hW.alike hK, hD⟩, hS.F ht⟩) hS.2.2 dX5_register_11
  · refine W.eq (g2 := F0 m 5 ls [.ref (v (4 + j100003))]) rfl ?_
    refine lv_astore_n (lv' := [(2, .ref (v (4 + j100003))), (0, .ref (v 0)), (1, .int xk)]) hx hb dX5_register_5 rfl hl (by decide) rfl (fun ls hl => ?_)
    refine lv_aload_n hx hb dX5_register_6 rfl (lv_at hl 0 rfl) ?_
    refine lv_ifnonnull (tgt := 12) hx hb dX5_register_7 (by decide) ?_
    refine lv_aload_n hx hb dX5_register_12 rfl (lv_at hl 0 rfl) ?_
    refine lv_dup hx hb dX5_register_13 rfl ?_
    obtain ⟨j100004, hj100004⟩ := pG_3 (cy := cy) (N := N) (T := T) (I := I) (Q := Q) (J := J) (hC.kp hj100003).1 (hC.kp hj100003).2
    refine va_get (D := (dC, dI)) (ci := 3) (v := .int (I (v (4 + j100003)) 1)) (C := RX3) (T := TX3) (N := 6) hx hb hts hi3 hown hK hP j100004 hj100004 rfl 1 (by decide) (hts (.fieldLink RX5 75 "TallyLogs$Producer" "generation" "I") (by decide +kernel)) (fun _ h9 => h9) rfl dX5_register_14 ?_
    refine lv_topi (fun x100005 ex100005 => ?_)
    refine lv_iconst (v := 1) hx hb dX5_register_17 (by decide) ?_
    refine lv_iadd hx hb dX5_register_18 ?_
    refine lv_topi (fun v100006 ev100006 => ?_)
    obtain ⟨j100007, hj100007⟩ := pG_3 (cy := cy) (N := N) (T := T) (I := I) (Q := Q) (J := J) (hC.kp hj100003).1 (hC.kp hj100003).2
    have hDo := hD
    refine va_put (D := (dC, dI)) (ci := 3) (v := .int v100006) (ty := .int) (C := RX3) (T := TX3) (N := 6) hx hb hts hi3 tyX3 tyX3_ok nmX3 hown hK hP hD hS j100007 hj100007 rfl 1 (by decide) (hts (.fieldLink RX5 75 "TallyLogs$Producer" "generation" "I") (by decide +kernel)) (fun _ h9 => h9) rfl (by decide +kernel) rfl rfl (Nat.le_of_ble_eq_true rfl) dX5_register_19 (fun H locs hP hD hS => ?_)
    have hP := Eq.mp (congrArg (fun w => va_P (dC, dI) vwCl w H) (pP_3_1 (x := v100006) hDo (hC.kp hj100003).1 (hC.kp hj100003).2 hj100007)) hP
    obtain ⟨I100008, eI100008⟩ : ∃ z, z = p2 I (v (4 + j100003)) 1 v100006 := ⟨_, rfl⟩
    rw [← eI100008] at hP
    have hR : RS v I100008 Q J I100008 Q J := RS.rf
    have hC : CT v L K N T I100008 Q := by rw [eI100008]; exact hC.pi (by rw [(hC.kp hj100003).2]; decide)
    have hD : va_D A (va_pl L (pF cy K N T I100008 Q J)) := pD hDo
    refine lv_aload_n hx hb dX5_register_22 rfl (lv_at hl 0 rfl) ?_
    obtain ⟨j100009, hj100009⟩ := pG_3 (cy := cy) (N := N) (T := T) (I := I100008) (Q := Q) (J := J) (hC.kp hj100003).1 (hC.kp hj100003).2
    refine va_get (D := (dC, dI)) (ci := 3) (v := .int (I100008 (v (4 + j100003)) 2)) (C := RX3) (T := TX3) (N := 6) hx hb hts hi3 hown hK hP j100009 hj100009 rfl 2 (by decide) (hts (.fieldLink RX5 78 "TallyLogs$Producer" "mode" "I") (by decide +kernel)) (fun _ h9 => h9) rfl dX5_register_23 ?_
    refine lv_topi (fun x100010 ex100010 => ?_)
    refine lv_iconst (v := 1) hx hb dX5_register_26 (by decide) ?_
    refine lv_icmp_ne (tgt := 35) hx hb dX5_register_27 (by decide) (fun c100011 => ?_) (fun c100011 => ?_)
    · refine lv_aload_n hx hb dX5_register_35 rfl (lv_at hl 0 rfl) ?_
      obtain ⟨j100012, hj100012⟩ := pG_3 (cy := cy) (N := N) (T := T) (I := I100008) (Q := Q) (J := J) (hC.kp hj100003).1 (hC.kp hj100003).2
      refine va_get (D := (dC, dI)) (ci := 3) (v := .int (I100008 (v (4 + j100003)) 1)) (C := RX3) (T := TX3) (N := 6) hx hb hts hi3 hown hK hP j100012 hj100012 rfl 1 (by decide) (hts (.fieldLink RX5 75 "TallyLogs$Producer" "generation" "I") (by decide +kernel)) (fun _ h9 => h9) rfl dX5_register_36 ?_
      refine lv_topi (fun x100013 ex100013 => ?_)
      refine lv_bipush (v := 8) hx hb dX5_register_39 (by decide) ?_
      refine lv_imul hx hb dX5_register_41 ?_
      refine lv_topi (fun v100014 ev100014 => ?_)
      refine lv_iload_n hx hb dX5_register_42 rfl (lv_at hl 2 rfl) ?_
      refine lv_iadd hx hb dX5_register_43 ?_
      refine lv_topi (fun v100015 ev100015 => ?_)
      exact W.iret (v := v100015) hx hb hr (fun t ht hW => ⟨⟨v100015, (I100008, Q, J), rfl, ⟨⟨hC, by rw [sp_rgI, if_pos (by rw [hn100003, nI_toInt (by omega)]; omega), hn100003, nI_clamp (by omega), ← ex100005, ← ev100006, ← eI100008]; exact hR⟩, by show _ = _; have hg9 := hR.2.1 _ hj100003; rw [sp_rgr, if_pos (by rw [hn100003, nI_toInt (by omega)]; omega), ev100015, ev100014, ex100013, hg9, eI100008, p2_at, ev100006, ex100005, Int32.mul_comm, show xk.toNatClampNeg = j100003 by rw [hn100003, nI_clamp (by omega)]]⟩, by rw [ht]; exact hP, va_K.moved hW.alike hK, hD⟩, hS.F ht⟩) hS.2.2 dX5_register_44
    · refine lv_aload_n hx hb dX5_register_30 rfl (lv_at hl 0 rfl) ?_
      refine lv_iconst (v := 0) hx hb dX5_register_31 (by decide) ?_
      obtain ⟨j100016, hj100016⟩ := pG_3 (cy := cy) (N := N) (T := T) (I := I100008) (Q := Q) (J := J) (hC.kp hj100003).1 (hC.kp hj100003).2
      have hFc := pfree hD hS hA
      refine va_callv (va_runV (As := [.int 0]) (rest := []) ⟨hx, hb, hml, hown, hts⟩ (c_X3_startEnding l dC dI cy v L K N T I100008 Q J H.size (v (4 + j100003)) 0 hC (hC.kp hj100003).1 (hC.kp hj100003).2 rfl rfl) (cwV 1 hts gX5_register_X3_startEnding rfl rfl rfl (by decide +kernel) ⟨Nat.le_of_ble_eq_true rfl, Nat.le_of_ble_eq_true rfl⟩) ⟨pw_blind, va_recv hK hP (ci := 3) (q0 := j100016) rfl hj100016, fun U hU hW => ⟨rfl, pw_pre hP hK hN hD hU hW⟩⟩ rfl rfl hl.1 rfl (lv_room (Nat.le_of_ble_eq_true rfl)) dX5_register_32 ⟨Nat.le_of_ble_eq_true rfl, Nat.le_of_ble_eq_true rfl⟩) hS (fun q _ h => hFc q h) hFc (fun d9 t H1 locs ht hvm hw hB hz1 hk1 hS => ?_)
      obtain ⟨I100017, Q100017, J100017⟩ := d9
      obtain ⟨hC, hR1⟩ := hw
      obtain ⟨hP, hK1, hD1⟩ := hB
      rw [ht] at hP
      have hD := hD1.weaken (fun _ _ _ h => hFc _ h)
      have hR := hR.trans hR1
      generalize H1 = H at hP hS ⊢
      have hP : va_P (dC, dI) vwCl (va_pl L (pF cy K N T I100017 Q100017 J100017)) H := hP
      have hD : va_D A (va_pl L (pF cy K N T I100017 Q100017 J100017)) := hD
      have hC : CT v L K N T I100017 Q100017 := hC
      have hR : RS v I100008 Q J I100017 Q100017 J100017 := hR
      refine lv_aload_n hx hb dX5_register_35 rfl (lv_at hl 0 rfl) ?_
      obtain ⟨j100019, hj100019⟩ := pG_3 (cy := cy) (N := N) (T := T) (I := I100017) (Q := Q100017) (J := J100017) (hC.kp hj100003).1 (hC.kp hj100003).2
      refine va_get (D := (dC, dI)) (ci := 3) (v := .int (I100017 (v (4 + j100003)) 1)) (C := RX3) (T := TX3) (N := 6) hx hb hts hi3 hown hK hP j100019 hj100019 rfl 1 (by decide) (hts (.fieldLink RX5 75 "TallyLogs$Producer" "generation" "I") (by decide +kernel)) (fun _ h9 => h9) rfl dX5_register_36 ?_
      refine lv_topi (fun x100020 ex100020 => ?_)
      refine lv_bipush (v := 8) hx hb dX5_register_39 (by decide) ?_
      refine lv_imul hx hb dX5_register_41 ?_
      refine lv_topi (fun v100021 ev100021 => ?_)
      refine lv_iload_n hx hb dX5_register_42 rfl (lv_at hl 2 rfl) ?_
      refine lv_iadd hx hb dX5_register_43 ?_
      refine lv_topi (fun v100022 ev100022 => ?_)
      exact W.iret (v := v100022) hx hb hr (fun t ht hW => ⟨⟨v100022, (I100017, Q100017, J100017), rfl, ⟨⟨hC, by rw [sp_rgI, if_pos (by rw [hn100003, nI_toInt (by omega)]; omega), hn100003, nI_clamp (by omega), ← ex100005, ← ev100006, ← eI100008]; exact hR⟩, by show _ = _; have hg9 := hR.2.1 _ hj100003; rw [sp_rgr, if_pos (by rw [hn100003, nI_toInt (by omega)]; omega), ev100022, ev100021, ex100020, hg9, eI100008, p2_at, ev100006, ex100005, Int32.mul_comm, show xk.toNatClampNeg = j100003 by rw [hn100003, nI_clamp (by omega)]]⟩, by rw [ht]; exact hP, va_K.moved hW.alike hK, hD⟩, hS.F ht⟩) hS.2.2 dX5_register_44
set_option maxHeartbeats 4000000 in
set_option maxRecDepth 100000 in
/-- member -/
theorem e_X5_member (l : Launch) (dC : Nat → ClassId) (dI : Nat → Nat → Nat) (cy : Nat → ClassId) (v : Nat → Nat) (L : List Nat) (K N : Nat → Nat) (T : Nat → Nat → Nat) (I : Nat → Nat → Int32) (Q : Nat → Nat → Option Nat) (J : Nat → Nat → Int32) (sz : Nat) (xg : Int32) (xm : Int32) (hC : CT v L K N T I Q) : Met l yX5_member wsX5_member ({ frames := 1, cells := 0, slots := 0, locals := 21 }) (va_Pc [.ref (v 0), .int xg, .int xm] (pW dC dI cy L (pF cy K N T I Q J) sz)) (va_Qi (fun (r : Int32) (d : (Nat → Nat → Int32) × (Nat → Nat → Option Nat) × (Nat → Nat → Int32)) => (CT v L K N T d.1 d.2.1 ∧ RS v (sp_mbI v I xg xm) Q J d.1 d.2.1 d.2.2) ∧ r = sp_mbr (I (v (10 + xg.toNatClampNeg)) 1) xg xm) (fun (d : (Nat → Nat → Int32) × (Nat → Nat → Option Nat) × (Nat → Nat → Int32)) t => va_P (dC, dI) vwCl (va_pl L (pF cy K N T d.1 d.2.1 d.2.2)) t.heap ∧ va_K (dC, dI) vwCl (pTy cy) t ∧ va_D (va_A (va_pl L (pF cy K N T I Q J)) sz) (va_pl L (pF cy K N T d.1 d.2.1 d.2.2))) (va_A (va_pl L (pF cy K N T I Q J)) sz)) 0 0 (va_A (va_pl L (pF cy K N T I Q J)) sz) := by
  refine Met.ofW (cc := cX5_member) (maxL := 4) (ret := (some .int)) (by decide) rfl ?_
  intro p e s m args below meth c s₁ B hml hv
  obtain ⟨rfl, hsz, ⟨hP, hK, hN⟩, hD0⟩ := hv
  have hx := B.exec
  have hb := B.bytes
  have hr := B.returns
  have hts := atoms_spec (ws := wsX5_member) B.pre
  have hown : s.vm.findClass RX5 = some m.cls := findClass_of_methodNamed B.named
  have hlocks := B.notSynchronized
  have hi5 : ∀ w ∈ wsX50, w ∈ wsX5_member := by decide +kernel
  have hi1 : ∀ w ∈ wsX10, w ∈ wsX5_member := by decide +kernel
  have hl := lv_entry ([.ref (v 0), .int xg, .int xm]) (n := 4) (Nat.le_of_ble_eq_true rfl)
  rw [lg_entry_eq]
  generalize (lg_sl ([.ref (v 0), .int xg, .int xm]) ++ List.replicate (4 - (lg_sl ([.ref (v 0), .int xg, .int xm])).length) Slot.unset).toArray = ls at hl ⊢
  have hl : lv_has ls 4 [(0, .ref (v 0)), (1, .int xg), (2, .int xm)] := hl
  subst hsz
  have hD := hD0.self (sz := s.heap.size)
  generalize hAe : va_A (va_pl L (pF cy K N T I Q J)) s.heap.size = A at hD ⊢
  have hA : ∀ q : Nat, s.heap.size ≤ q → A q := fun q h => by rw [← hAe]; exact Or.inr h
  have hS : va_S A s.heap s.heap [] := va_S.rf
  have hR : RS v I Q J I Q J := RS.rf
  have hn28 := hN.1
  have hn30 := hN.2.1
  have hn37 := hN.2.2.1
  refine lv_aload_n hx hb dX5_member_0 rfl (lv_at hl 0 rfl) ?_
  refine lv_iload_n hx hb dX5_member_1 rfl (lv_at hl 1 rfl) ?_
  obtain ⟨j100024, hj100024⟩ := pG_5 (cy := cy) (N := N) (T := T) (I := I) (Q := Q) (J := J) (hC.at 0 (by decide)) (hC.k 0 (by decide) rfl)
  refine va_csq (W.runV (As := [.int xg]) (rest := []) ⟨hx, hb, hml, hown, hts⟩ (c_X5_groupAt l dC dI cy v L K N T I Q J  xg hC) (cwV 1 hts gX5_member_X5_groupAt rfl rfl rfl (by decide +kernel) ⟨Nat.le_of_ble_eq_true rfl, Nat.le_of_ble_eq_true rfl⟩) ⟨pb_blind, va_recv hK hP (ci := 5) (q0 := j100024) rfl hj100024, fun U hU hW => ⟨rfl, pb_pre hP hK hN hU hW⟩⟩ rfl rfl hl.1 rfl (lv_room (Nat.le_of_ble_eq_true rfl)) dX5_member_2 ⟨Nat.le_of_ble_eq_true rfl, Nat.le_of_ble_eq_true rfl⟩) (fun r100023 hr100023 => ?_)
  rcases hr100023 with ⟨hn100025, rfl⟩ | ⟨j100025, hj100025, hn100025, rfl⟩
  · refine W.eq (g2 := F0 m 5 ls [.null]) rfl ?_
    refine lv_astore_nN (lv' := [(3, .null), (0, .ref (v 0)), (1, .int xg), (2, .int xm)]) hx hb dX5_member_5 rfl hl (by decide) rfl (fun ls hl => ?_)
    refine lv_aload_nN hx hb dX5_member_6 rfl (lv_at hl 0 rfl) ?_
    refine lv_ifnullN (tgt := 20) hx hb dX5_member_7 (by decide) ?_
    refine lv_iconst (v := (-1)) hx hb dX5_member_20 (by decide) ?_
    exact W.iret (v := (-1)) hx hb hr (fun t ht hW => ⟨⟨(-1), (I, Q, J), rfl, ⟨⟨hC, by rw [sp_mbI, if_neg (fun q => hn100025 ⟨by omega, by omega⟩)]; exact hR⟩, by show _ = _; rw [sp_mbr, if_neg (fun q => hn100025 ⟨by omega, by omega⟩)]⟩, by rw [ht]; exact hP, va_K.moved hW.alike hK, hD⟩, hS.F ht⟩) hS.2.2 dX5_member_21
  · refine W.eq (g2 := F0 m 5 ls [.ref (v (10 + j100025))]) rfl ?_
    refine lv_astore_n (lv' := [(3, .ref (v (10 + j100025))), (0, .ref (v 0)), (1, .int xg), (2, .int xm)]) hx hb dX5_member_5 rfl hl (by decide) rfl (fun ls hl => ?_)
    refine lv_aload_n hx hb dX5_member_6 rfl (lv_at hl 0 rfl) ?_
    refine lv_ifnull hx hb dX5_member_7 ?_
    refine lv_iload_n hx hb dX5_member_10 rfl (lv_at hl 3 rfl) ?_
    refine lv_if_lt (tgt := 20) hx hb dX5_member_11 (by decide) (fun c100026 => ?_) (fun c100026 => ?_)
    · refine lv_iconst (v := (-1)) hx hb dX5_member_20 (by decide) ?_
      exact W.iret (v := (-1)) hx hb hr (fun t ht hW => ⟨⟨(-1), (I, Q, J), rfl, ⟨⟨hC, by have kc100026 := c100026; simp only [xk_lt, xk_le, xk_0, xk_1, xk_2, xk_3, xk_4, xk_5, xk_6, xk_7, xk_8, xk_50] at kc100026; rw [sp_mbI, if_neg (fun q => by omega)]; exact hR⟩, by show _ = _; have kc100026 := c100026; simp only [xk_lt, xk_le, xk_0, xk_1, xk_2, xk_3, xk_4, xk_5, xk_6, xk_7, xk_8, xk_50] at kc100026; rw [sp_mbr, if_neg (fun q => by omega)]⟩, by rw [ht]; exact hP, va_K.moved hW.alike hK, hD⟩, hS.F ht⟩) hS.2.2 dX5_member_21
    · refine lv_iload_n hx hb dX5_member_14 rfl (lv_at hl 3 rfl) ?_
      refine lv_bipush (v := 8) hx hb dX5_member_15 (by decide) ?_
      refine lv_icmp_lt (tgt := 22) hx hb dX5_member_17 (by decide) (fun c100027 => ?_) (fun c100027 => ?_)
      · refine lv_aload_n hx hb dX5_member_22 rfl (lv_at hl 0 rfl) ?_
        refine lv_dup hx hb dX5_member_23 rfl ?_
        obtain ⟨j100028, hj100028⟩ := pG_1 (cy := cy) (N := N) (T := T) (I := I) (Q := Q) (J := J) (hC.kg hj100025).1 (hC.kg hj100025).2
        refine va_get (D := (dC, dI)) (ci := 1) (v := .int (I (v (10 + j100025)) 0)) (C := RX1) (T := TX1) (N := 3) hx hb hts hi1 hown hK hP j100028 hj100028 rfl 0 (by decide) (hts (.fieldLink RX5 198 "TallyLogs$Group" "members" "I") (by decide +kernel)) (fun _ h9 => h9) rfl dX5_member_24 ?_
        refine lv_topi (fun x100029 ex100029 => ?_)
        refine lv_iconst (v := 1) hx hb dX5_member_27 (by decide) ?_
        refine lv_iload_n hx hb dX5_member_28 rfl (lv_at hl 3 rfl) ?_
        refine lv_ishl hx hb dX5_member_29 ?_
        refine lv_topi (fun v100030 ev100030 => ?_)
        refine lv_ixor hx hb dX5_member_30 ?_
        refine lv_topi (fun v100031 ev100031 => ?_)
        obtain ⟨j100032, hj100032⟩ := pG_1 (cy := cy) (N := N) (T := T) (I := I) (Q := Q) (J := J) (hC.kg hj100025).1 (hC.kg hj100025).2
        have hDo := hD
        refine va_put (D := (dC, dI)) (ci := 1) (v := .int v100031) (ty := .int) (C := RX1) (T := TX1) (N := 3) hx hb hts hi1 tyX1 tyX1_ok nmX1 hown hK hP hD hS j100032 hj100032 rfl 0 (by decide) (hts (.fieldLink RX5 198 "TallyLogs$Group" "members" "I") (by decide +kernel)) (fun _ h9 => h9) rfl (by decide +kernel) rfl rfl (Nat.le_of_ble_eq_true rfl) dX5_member_31 (fun H locs hP hD hS => ?_)
        have hP := Eq.mp (congrArg (fun w => va_P (dC, dI) vwCl w H) (pP_1_0 (x := v100031) hDo (hC.kg hj100025).1 (hC.kg hj100025).2 hj100032)) hP
        obtain ⟨I100033, eI100033⟩ : ∃ z, z = p2 I (v (10 + j100025)) 0 v100031 := ⟨_, rfl⟩
        rw [← eI100033] at hP
        have hR : RS v I100033 Q J I100033 Q J := RS.rf
        have hC : CT v L K N T I100033 Q := by rw [eI100033]; exact hC.pi (by rw [(hC.kg hj100025).2]; decide)
        have hD : va_D A (va_pl L (pF cy K N T I100033 Q J)) := pD hDo
        refine lv_aload_n hx hb dX5_member_34 rfl (lv_at hl 0 rfl) ?_
        refine lv_dup hx hb dX5_member_35 rfl ?_
        obtain ⟨j100034, hj100034⟩ := pG_1 (cy := cy) (N := N) (T := T) (I := I100033) (Q := Q) (J := J) (hC.kg hj100025).1 (hC.kg hj100025).2
        refine va_get (D := (dC, dI)) (ci := 1) (v := .int (I100033 (v (10 + j100025)) 1)) (C := RX1) (T := TX1) (N := 3) hx hb hts hi1 hown hK hP j100034 hj100034 rfl 1 (by decide) (hts (.fieldLink RX5 201 "TallyLogs$Group" "round" "I") (by decide +kernel)) (fun _ h9 => h9) rfl dX5_member_36 ?_
        refine lv_topi (fun x100035 ex100035 => ?_)
        refine lv_iconst (v := 1) hx hb dX5_member_39 (by decide) ?_
        refine lv_iadd hx hb dX5_member_40 ?_
        refine lv_topi (fun v100036 ev100036 => ?_)
        obtain ⟨j100037, hj100037⟩ := pG_1 (cy := cy) (N := N) (T := T) (I := I100033) (Q := Q) (J := J) (hC.kg hj100025).1 (hC.kg hj100025).2
        have hDo := hD
        refine va_put (D := (dC, dI)) (ci := 1) (v := .int v100036) (ty := .int) (C := RX1) (T := TX1) (N := 3) hx hb hts hi1 tyX1 tyX1_ok nmX1 hown hK hP hD hS j100037 hj100037 rfl 1 (by decide) (hts (.fieldLink RX5 201 "TallyLogs$Group" "round" "I") (by decide +kernel)) (fun _ h9 => h9) rfl (by decide +kernel) rfl rfl (Nat.le_of_ble_eq_true rfl) dX5_member_41 (fun H locs hP hD hS => ?_)
        have hP := Eq.mp (congrArg (fun w => va_P (dC, dI) vwCl w H) (pP_1_1 (x := v100036) hDo (hC.kg hj100025).1 (hC.kg hj100025).2 hj100037)) hP
        obtain ⟨I100038, eI100038⟩ : ∃ z, z = p2 I100033 (v (10 + j100025)) 1 v100036 := ⟨_, rfl⟩
        rw [← eI100038] at hP
        have hR : RS v I100038 Q J I100038 Q J := RS.rf
        have hC : CT v L K N T I100038 Q := by rw [eI100038]; exact hC.pi (by rw [(hC.kg hj100025).2]; decide)
        have hD : va_D A (va_pl L (pF cy K N T I100038 Q J)) := pD hDo
        refine lv_aload_n hx hb dX5_member_44 rfl (lv_at hl 0 rfl) ?_
        obtain ⟨j100039, hj100039⟩ := pG_1 (cy := cy) (N := N) (T := T) (I := I100038) (Q := Q) (J := J) (hC.kg hj100025).1 (hC.kg hj100025).2
        refine va_get (D := (dC, dI)) (ci := 1) (v := .int (I100038 (v (10 + j100025)) 1)) (C := RX1) (T := TX1) (N := 3) hx hb hts hi1 hown hK hP j100039 hj100039 rfl 1 (by decide) (hts (.fieldLink RX5 201 "TallyLogs$Group" "round" "I") (by decide +kernel)) (fun _ h9 => h9) rfl dX5_member_45 ?_
        refine lv_topi (fun x100040 ex100040 => ?_)
        exact W.iret (v := x100040) hx hb hr (fun t ht hW => ⟨⟨x100040, (I100038, Q, J), rfl, ⟨⟨hC, by have kc100026 := c100026; have kc100027 := c100027; simp only [xk_lt, xk_le, xk_0, xk_1, xk_2, xk_3, xk_4, xk_5, xk_6, xk_7, xk_8, xk_50] at kc100026 kc100027; have e9 : x100035 = I (v (10 + j100025)) 1 := (by rw [ex100035, eI100033, p2_ne _ _ (fun z => absurd z.2 (by decide))]); rw [sp_mbI, if_pos ⟨by rw [hn100025, nI_toInt (by omega)]; omega, by omega⟩, hn100025, nI_clamp (by omega), ← ex100029, ← ev100030, ← ev100031, ← eI100033, ← e9, ← ev100036, ← eI100038]; exact hR⟩, by show _ = _; have kc100026 := c100026; have kc100027 := c100027; simp only [xk_lt, xk_le, xk_0, xk_1, xk_2, xk_3, xk_4, xk_5, xk_6, xk_7, xk_8, xk_50] at kc100026 kc100027; rw [sp_mbr, if_pos ⟨by rw [hn100025, nI_toInt (by omega)]; omega, by omega⟩, ex100040, eI100038, p2_at, ev100036, ex100035, eI100033, p2_ne _ _ (fun z => absurd z.2 (by decide)), show xg.toNatClampNeg = j100025 by rw [hn100025, nI_clamp (by omega)]]⟩, by rw [ht]; exact hP, va_K.moved hW.alike hK, hD⟩, hS.F ht⟩) hS.2.2 dX5_member_48
      · refine lv_iconst (v := (-1)) hx hb dX5_member_20 (by decide) ?_
        exact W.iret (v := (-1)) hx hb hr (fun t ht hW => ⟨⟨(-1), (I, Q, J), rfl, ⟨⟨hC, by have kc100026 := c100026; have kc100027 := c100027; simp only [xk_lt, xk_le, xk_0, xk_1, xk_2, xk_3, xk_4, xk_5, xk_6, xk_7, xk_8, xk_50] at kc100026 kc100027; rw [sp_mbI, if_neg (fun q => by omega)]; exact hR⟩, by show _ = _; have kc100026 := c100026; have kc100027 := c100027; simp only [xk_lt, xk_le, xk_0, xk_1, xk_2, xk_3, xk_4, xk_5, xk_6, xk_7, xk_8, xk_50] at kc100026 kc100027; rw [sp_mbr, if_neg (fun q => by omega)]⟩, by rw [ht]; exact hP, va_K.moved hW.alike hK, hD⟩, hS.F ht⟩) hS.2.2 dX5_member_21
