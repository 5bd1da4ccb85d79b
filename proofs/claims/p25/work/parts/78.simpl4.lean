set_option maxHeartbeats 4000000 in
set_option maxRecDepth 100000 in
/-- Group.setOffset, exactly -/
theorem e_X1_setOffset (l : Launch) (dC : Nat → ClassId) (dI : Nat → Nat → Nat) (cy : Nat → ClassId) (v : Nat → Nat) (L : List Nat) (K N : Nat → Nat) (T : Nat → Nat → Nat) (I : Nat → Nat → Int32) (Q : Nat → Nat → Option Nat) (J : Nat → Nat → Int32) (sz : Nat) (gj : Nat) (xp xo : Int32) (hC : CT v L K N T I Q) (hgj : gj < 4) (hxp : vp_in xp 4) : Met l yX1_setOffset wsX1_setOffset ({ frames := 0, cells := 0, slots := 0, locals := 0 }) (va_Pc [.ref (v (10 + gj)), .int xp, .int xo] (pW dC dI cy L (pF cy K N T I Q J) sz)) (va_Qv (fun d : (Nat → Nat → Int32) × (Nat → Nat → Option Nat) × (Nat → Nat → Int32) => CT v L K N T d.1 d.2.1 ∧ d.1 = I ∧ d.2.1 = Q ∧ d.2.2 = va_up J (v (14 + gj)) (upd (J (v (14 + gj))) xp.toNatClampNeg xo)) (fun (d : (Nat → Nat → Int32) × (Nat → Nat → Option Nat) × (Nat → Nat → Int32)) t => va_P (dC, dI) vwCl (va_pl L (pF cy K N T d.1 d.2.1 d.2.2)) t.heap ∧ va_K (dC, dI) vwCl (pTy cy) t ∧ va_D (va_A (va_pl L (pF cy K N T I Q J)) sz) (va_pl L (pF cy K N T d.1 d.2.1 d.2.2))) (va_A (va_pl L (pF cy K N T I Q J)) sz)) 0 0 (va_A (va_pl L (pF cy K N T I Q J)) sz) := by
  refine Met.ofW (cc := cX1_setOffset) (maxL := 3) (ret := none) (by decide) rfl ?_
  intro p e s m args below meth c s₁ B hml hv
  obtain ⟨rfl, hsz, ⟨hP, hK, hN⟩, hD0⟩ := hv
  have hx := B.exec
  have hb := B.bytes
  have hr := B.returns
  have hts := atoms_spec (ws := wsX1_setOffset) B.pre
  have hown : s.vm.findClass RX1 = some m.cls := findClass_of_methodNamed B.named
  have hlocks := B.notSynchronized
  have hi1 : ∀ w ∈ wsX10, w ∈ wsX1_setOffset := by decide +kernel
  have hl := lv_entry ([.ref (v (10 + gj)), .int xp, .int xo]) (n := 3) (Nat.le_of_ble_eq_true rfl)
  rw [lg_entry_eq]
  generalize (lg_sl ([.ref (v (10 + gj)), .int xp, .int xo]) ++ List.replicate (3 - (lg_sl ([.ref (v (10 + gj)), .int xp, .int xo])).length) Slot.unset).toArray = ls at hl ⊢
  have hl : lv_has ls 3 [(0, .ref (v (10 + gj))), (1, .int xp), (2, .int xo)] := hl
  subst hsz
  have hD := hD0.self (sz := s.heap.size)
  generalize hAe : va_A (va_pl L (pF cy K N T I Q J)) s.heap.size = A at hD ⊢
  have hA : ∀ q : Nat, s.heap.size ≤ q → A q := fun q h => by rw [← hAe]; exact Or.inr h
  have hS : va_S A s.heap s.heap [] := va_S.rf
  have hR : RS v I Q J I Q J := RS.rf
  refine lv_iload_n hx hb dX1_setOffset_0 rfl (lv_at hl 1 rfl) ?_
  refine lv_if_lt (tgt := 16) hx hb dX1_setOffset_1 (by decide) (fun c100101 => ?_) (fun c100101 => ?_)
  · exact absurd c100101 (fun q => hxp (Or.inl q))
  refine lv_iload_n hx hb dX1_setOffset_4 rfl (lv_at hl 1 rfl) ?_
  refine lv_iconst (v := 4) hx hb dX1_setOffset_5 (by decide) ?_
  refine lv_icmp_ge (tgt := 16) hx hb dX1_setOffset_6 (by decide) (fun c100102 => ?_) (fun c100102 => ?_)
  · exact absurd c100102 (by have h9 := vp_in_iff.mp hxp; rw [xk_le, xk_4]; omega)
  refine lv_aload_n hx hb dX1_setOffset_9 rfl (lv_at hl 0 rfl) ?_
  obtain ⟨j100103, hj100103⟩ := pG_1 (cy := cy) (N := N) (T := T) (I := I) (Q := Q) (J := J) (hC.kg hgj).1 (hC.kg hgj).2
  refine va_get (D := (dC, dI)) (ci := 1) (v := .ref (T (v (10 + gj)) 2)) (C := RX1) (T := TX1) (N := 3) hx hb hts hi1 hown hK hP j100103 hj100103 rfl 2 (by decide) (hts (.fieldLink RX1 18 "TallyLogs$Group" "offsets" "[I") (by decide +kernel)) (fun _ h9 => h9) rfl dX1_setOffset_10 ?_
  refine W.eq (g2 := F0 m 13 ls [.ref (v (14 + gj))]) (by rw [(hC.1.2.2.2 gj hgj).1]) ?_
  refine lv_iload_n hx hb dX1_setOffset_13 rfl (lv_at hl 1 rfl) ?_
  refine lv_iload_n hx hb dX1_setOffset_14 rfl (lv_at hl 2 rfl) ?_
  obtain ⟨j100104, hj100104⟩ := pG_7 (cy := cy) (N := N) (T := T) (I := I) (Q := Q) (J := J) (hC.ko hgj).1 (hC.ko hgj).2
  have hDo := hD
  refine va_iast (x := xo) hx hb hK hP hD hS j100104 0 hj100104 rfl (by rw [(hC.1.2.2.2 gj hgj).2]; exact hxp) dX1_setOffset_15 (fun H locs hP hD hS => ?_)
  have hP := Eq.mp (congrArg (fun w => va_P (dC, dI) vwCl w H) (pS_7 (x := xo) hDo (hC.ko hgj).1 (hC.ko hgj).2 hj100104)) hP
  obtain ⟨J100105, eJ100105⟩ : ∃ z, z = va_up J (v (14 + gj)) (upd (J (v (14 + gj))) xp.toNatClampNeg xo) := ⟨_, rfl⟩
  rw [← eJ100105] at hP
  have hD : va_D A (va_pl L (pF cy K N T I Q J100105)) := pD hDo
  exact W.vret hx hb hr (fun t ht hW => ⟨⟨(I, Q, J100105), rfl, ⟨hC, rfl, rfl, eJ100105⟩, by rw [ht]; exact hP, va_K.moved hW.alike hK, hD⟩, hS.F ht⟩) hS.2.2 dX1_setOffset_16
