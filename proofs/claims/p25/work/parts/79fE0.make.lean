section XG
variable {v : Nat → Nat} {L L1 L2 : List Nat} {K N K1 N1 K2 N2 : Nat → Nat} {T T1 T2 : Nat → Nat → Nat} {I I0 : Nat → Nat → Int32} {Q Q0 : Nat → Nat → Option Nat} {J J0 : Nat → Nat → Int32} {cy : Nat → ClassId} {q k : Nat} {t : Nat → Nat} {i : Nat → Int32} {r : Nat → Option Nat}
variable {A : Nat → Prop} {dC : Nat → ClassId} {dI : Nat → Nat → Nat} {H : Heap}
/-- what holds of a pool, and that all of an elder one is in it as it was -/
def PGx (dC : Nat → ClassId) (dI : Nat → Nat → Nat) (cy : Nat → ClassId) (v : Nat → Nat) (N : Nat → Nat) (A : Nat → Prop) (H : Heap) (J : Nat → Nat → Int32) (L : List Nat) (K : Nat → Nat) (T : Nat → Nat → Nat) (I : Nat → Nat → Int32) (Q : Nat → Nat → Option Nat) (L' : List Nat) (K' : Nat → Nat) (T' : Nat → Nat → Nat) (I' : Nat → Nat → Int32) (Q' : Nat → Nat → Option Nat) : Prop :=
  (va_P (dC, dI) vwCl (va_pl L' (pF cy K' N T' I' Q' J)) H ∧ va_D A (va_pl L' (pF cy K' N T' I' Q' J)) ∧ CT v L' K' N T' I' Q') ∧ PX L K N T L' K' N T' ∧ ∀ a, a ∈ L → I' a = I a ∧ Q' a = Q a
theorem pNewx (hC : CT v L K N T I Q) (hk : k = 0 ∨ ((k = 8 ∨ k = 12) ∧ r = fun _ => none) ∨ (k = 2 ∧ t 2 ∈ L ∧ K (t 2) = 12) ∨ (k = 4 ∧ t 0 ∈ L ∧ K (t 0) = 8 ∧ 0 ≤ (i 1).toInt)) (hP : va_P (dC, dI) vwCl (va_pl L (pF cy K N T I Q J) ++ [(q, pF cy (va_up K q k) N (va_up T q t) (va_up I q i) (va_up Q q r) J q)]) H) (hD : va_D A (va_pl L (pF cy K N T I Q J) ++ [(q, pF cy (va_up K q k) N (va_up T q t) (va_up I q i) (va_up Q q r) J q)])) : PGx dC dI cy v N A H J L K T I Q (L ++ [q]) (va_up K q k) (va_up T q t) (va_up I q i) (va_up Q q r) ∧ q ∉ L := by
  have hq : q ∉ L := va_pl_fresh2 (X := []) hD
  obtain ⟨⟨h1, h2, h3, _⟩, h4⟩ := pNew hC (RS.rf (v := v) (I := I) (Q := Q) (J := J)) hk hP hD
  exact ⟨⟨⟨h1, h2, h3⟩, h4, fun a ha => ⟨va_up_ne _ _ (fun z => hq (z ▸ ha)), va_up_ne _ _ (fun z => hq (z ▸ ha))⟩⟩, hq⟩
/-- an Entry is made -/
theorem pNew0x (hC : CT v L K N T I Q) (hP : va_P (dC, dI) vwCl (va_pl L (pF cy K N T I Q J) ++ [(q, .inr (0, [.int 0, .int 0, .int 0, .int 0, .int 0, .int 0, .int 0, .int 0]))]) H) (hD : va_D A (va_pl L (pF cy K N T I Q J) ++ [(q, .inr (0, [.int 0, .int 0, .int 0, .int 0, .int 0, .int 0, .int 0, .int 0]))])) : ∃ L' K' T' I' Q', PGx dC dI cy v N A H J L K T I Q L' K' T' I' Q' ∧ (q ∈ L' ∧ K' q = 0) ∧ q ∉ L := by
  have e : pF cy (va_up K q 0) N (va_up T q (T q)) (va_up I q (fun _ => 0)) (va_up Q q (Q q)) J q = .inr (0, [.int 0, .int 0, .int 0, .int 0, .int 0, .int 0, .int 0, .int 0]) := by
    rw [pF_0 (va_up_self _ _ _)]; simp only [va_up_self]
  rw [← e] at hP hD
  obtain ⟨h1, h2⟩ := pNewx hC (Or.inl rfl) hP hD
  exact ⟨_, _, _, _, _, h1, ⟨List.mem_append_right _ (List.mem_singleton.mpr rfl), va_up_self _ _ _⟩, h2⟩
theorem r8_of {x : Nat → Int32} {x0 x1 x2 x3 x4 x5 x6 x7 : Int32} (h0 : x 0 = x0) (h1 : x 1 = x1) (h2 : x 2 = x2) (h3 : x 3 = x3) (h4 : x 4 = x4) (h5 : x 5 = x5) (h6 : x 6 = x6) (h7 : x 7 = x7) : ∀ f, f < 8 → x f = r8 x0 x1 x2 x3 x4 x5 x6 x7 f := by
  intro f hf
  rcases (show f = 0 ∨ f = 1 ∨ f = 2 ∨ f = 3 ∨ f = 4 ∨ f = 5 ∨ f = 6 ∨ f = 7 by omega) with rfl | rfl | rfl | rfl | rfl | rfl | rfl | rfl
  · exact h0
  · exact h1
  · exact h2
  · exact h3
  · exact h4
  · exact h5
  · exact h6
  · exact h7
end XG
set_option maxHeartbeats 4000000 in
set_option maxRecDepth 100000 in
/-- Entry(epoch, producer, generation, seq, key, value, bound), exactly -/
theorem g_X0_init (l : Launch) (dC : Nat → ClassId) (dI : Nat → Nat → Nat) (cy : Nat → ClassId) (v : Nat → Nat) (L : List Nat) (K N : Nat → Nat) (T : Nat → Nat → Nat) (I : Nat → Nat → Int32) (Q : Nat → Nat → Option Nat) (J : Nat → Nat → Int32) (sz : Nat) (a : Nat) (ep : Int32) (pr : Int32) (ge : Int32) (sq : Int32) (ke : Int32) (va : Int32) (bo : Int32) (hC : CT v L K N T I Q) (ha : a ∈ L) (hk : K a = 0) (hcm : narrow .boolean (.int bo) = .int bo) (hcf : fits .boolean (.int bo) = true) : Met l yX0_init wsX0_init ({ frames := 1, cells := 0, slots := 0, locals := 12 }) (va_Pc [.ref a, .int ep, .int pr, .int ge, .int sq, .int ke, .int va, .int bo] (pW dC dI cy L (pF cy K N T I Q J) sz)) (va_Qv (fun d : (Nat → Nat → Int32) × (Nat → Nat → Option Nat) × (Nat → Nat → Int32) => CT v L K N T d.1 d.2.1 ∧ (∀ b, ¬ b = a → d.1 b = I b) ∧ (∀ f, f < 8 → d.1 a f = r8 ep 0 pr ge sq ke va bo f) ∧ d.2.1 = Q ∧ d.2.2 = J) (fun (d : (Nat → Nat → Int32) × (Nat → Nat → Option Nat) × (Nat → Nat → Int32)) t => va_P (dC, dI) vwCl (va_pl L (pF cy K N T d.1 d.2.1 d.2.2)) t.heap ∧ va_K (dC, dI) vwCl (pTy cy) t ∧ va_D (va_A (va_pl L (pF cy K N T I Q J)) sz) (va_pl L (pF cy K N T d.1 d.2.1 d.2.2))) (va_A (va_pl L (pF cy K N T I Q J)) sz)) 0 0 (va_A (va_pl L (pF cy K N T I Q J)) sz) := by
  refine Met.ofW (cc := cX0_init) (maxL := 8) (ret := none) (by decide) rfl ?_
  intro p e s m args below meth c s₁ B hml hv
  obtain ⟨rfl, hsz, ⟨hP, hK, hN⟩, hD0⟩ := hv
  have hx := B.exec
  have hb := B.bytes
  have hr := B.returns
  have hts := atoms_spec (ws := wsX0_init) B.pre
  have hown : s.vm.findClass RX0 = some m.cls := findClass_of_methodNamed B.named
  have hlocks := B.notSynchronized
  have hi0 : ∀ w ∈ wsX00, w ∈ wsX0_init := by decide +kernel
  have hl := lv_entry ([.ref a, .int ep, .int pr, .int ge, .int sq, .int ke, .int va, .int bo]) (n := 8) (Nat.le_of_ble_eq_true rfl)
  rw [lg_entry_eq]
  generalize (lg_sl ([.ref a, .int ep, .int pr, .int ge, .int sq, .int ke, .int va, .int bo]) ++ List.replicate (8 - (lg_sl ([.ref a, .int ep, .int pr, .int ge, .int sq, .int ke, .int va, .int bo])).length) Slot.unset).toArray = ls at hl ⊢
  have hl : lv_has ls 8 [(0, .ref a), (1, .int ep), (2, .int pr), (3, .int ge), (4, .int sq), (5, .int ke), (6, .int va), (7, .int bo)] := hl
  subst hsz
  have hD := hD0.self (sz := s.heap.size)
  generalize hAe : va_A (va_pl L (pF cy K N T I Q J)) s.heap.size = A at hD ⊢
  have hA : ∀ q : Nat, s.heap.size ≤ q → A q := fun q h => by rw [← hAe]; exact Or.inr h
  have hS : va_S A s.heap s.heap [] := va_S.rf
  have hR : RS v I Q J I Q J := RS.rf
  have hn28 := hN.1
  have hn30 := hN.2.1
  have hn37 := hN.2.2.1
  have hin : meth.name = "<init>" := (name_of_methodNamed B.named B.method).1
  refine lv_aload_n hx hb dX0_init_0 rfl (lv_at hl 0 rfl) ?_
  refine W.objInit hx hb hown (hts (.methodLink RX0 3 objectInit) (by decide +kernel)) (hts (.instanceMethod objectInit) (by decide +kernel)) (hts _ (List.mem_of_getElem? (i := 3) rfl)) rfl (by rw [hml]; exact hl.1) rfl dX0_init_1 (Nat.le_of_ble_eq_true rfl) (Nat.le_of_ble_eq_true rfl) ?_
  refine W.eq (g2 := F0 m 4 ls []) rfl ?_
  refine lv_aload_n hx hb dX0_init_4 rfl (lv_at hl 0 rfl) ?_
  refine lv_iload_n hx hb dX0_init_5 rfl (lv_at hl 1 rfl) ?_
  obtain ⟨j660001, hj660001⟩ := pG_0 (cy := cy) (N := N) (T := T) (I := I) (Q := Q) (J := J) ha hk
  have hDo := hD
  refine va_putF (D := (dC, dI)) (ci := 0) (v := .int ep) (ty := .int) (C := RX0) (T := TX0) (N := 8) hx hb hts hi0 tyX0 tyX0_ok nmX0 hown hK hP hD hS j660001 hj660001 rfl 0 (by decide) (hts (.fieldLink RX0 9 "TallyLogs$Entry" "epoch" "I") (by decide +kernel)) (fun _ h9 => h9) rfl hin rfl (by decide +kernel) rfl rfl (Nat.le_of_ble_eq_true rfl) dX0_init_6 (fun H locs hP hD hS => ?_)
  have hP := Eq.mp (congrArg (fun w => va_P (dC, dI) vwCl w H) (pP_0_0 (x := ep) hDo ha hk hj660001)) hP
  obtain ⟨I660002, eI660002⟩ : ∃ z, z = p2 I a 0 ep := ⟨_, rfl⟩
  rw [← eI660002] at hP
  have hR : RS v I660002 Q J I660002 Q J := RS.rf
  have hC : CT v L K N T I660002 Q := by rw [eI660002]; exact hC.pi (by rw [hk]; decide)
  have hD : va_D A (va_pl L (pF cy K N T I660002 Q J)) := pD hDo
  refine lv_aload_n hx hb dX0_init_9 rfl (lv_at hl 0 rfl) ?_
  refine lv_iconst (v := 0) hx hb dX0_init_10 (by decide) ?_
  obtain ⟨j660003, hj660003⟩ := pG_0 (cy := cy) (N := N) (T := T) (I := I660002) (Q := Q) (J := J) ha hk
  have hDo := hD
  refine va_putF (D := (dC, dI)) (ci := 0) (v := .int 0) (ty := .int) (C := RX0) (T := TX0) (N := 8) hx hb hts hi0 tyX0 tyX0_ok nmX0 hown hK hP hD hS j660003 hj660003 rfl 1 (by decide) (hts (.fieldLink RX0 15 "TallyLogs$Entry" "kind" "I") (by decide +kernel)) (fun _ h9 => h9) rfl hin rfl (by decide +kernel) rfl rfl (Nat.le_of_ble_eq_true rfl) dX0_init_11 (fun H locs hP hD hS => ?_)
  have hP := Eq.mp (congrArg (fun w => va_P (dC, dI) vwCl w H) (pP_0_1 (x := 0) hDo ha hk hj660003)) hP
  obtain ⟨I660004, eI660004⟩ : ∃ z, z = p2 I660002 a 1 0 := ⟨_, rfl⟩
  rw [← eI660004] at hP
  have hR : RS v I660004 Q J I660004 Q J := RS.rf
  have hC : CT v L K N T I660004 Q := by rw [eI660004]; exact hC.pi (by rw [hk]; decide)
  have hD : va_D A (va_pl L (pF cy K N T I660004 Q J)) := pD hDo
  refine lv_aload_n hx hb dX0_init_14 rfl (lv_at hl 0 rfl) ?_
  refine lv_iload_n hx hb dX0_init_15 rfl (lv_at hl 2 rfl) ?_
  obtain ⟨j660005, hj660005⟩ := pG_0 (cy := cy) (N := N) (T := T) (I := I660004) (Q := Q) (J := J) ha hk
  have hDo := hD
  refine va_putF (D := (dC, dI)) (ci := 0) (v := .int pr) (ty := .int) (C := RX0) (T := TX0) (N := 8) hx hb hts hi0 tyX0 tyX0_ok nmX0 hown hK hP hD hS j660005 hj660005 rfl 2 (by decide) (hts (.fieldLink RX0 18 "TallyLogs$Entry" "producer" "I") (by decide +kernel)) (fun _ h9 => h9) rfl hin rfl (by decide +kernel) rfl rfl (Nat.le_of_ble_eq_true rfl) dX0_init_16 (fun H locs hP hD hS => ?_)
  have hP := Eq.mp (congrArg (fun w => va_P (dC, dI) vwCl w H) (pP_0_2 (x := pr) hDo ha hk hj660005)) hP
  obtain ⟨I660006, eI660006⟩ : ∃ z, z = p2 I660004 a 2 pr := ⟨_, rfl⟩
  rw [← eI660006] at hP
  have hR : RS v I660006 Q J I660006 Q J := RS.rf
  have hC : CT v L K N T I660006 Q := by rw [eI660006]; exact hC.pi (by rw [hk]; decide)
  have hD : va_D A (va_pl L (pF cy K N T I660006 Q J)) := pD hDo
  refine lv_aload_n hx hb dX0_init_19 rfl (lv_at hl 0 rfl) ?_
  refine lv_iload_n hx hb dX0_init_20 rfl (lv_at hl 3 rfl) ?_
  obtain ⟨j660007, hj660007⟩ := pG_0 (cy := cy) (N := N) (T := T) (I := I660006) (Q := Q) (J := J) ha hk
  have hDo := hD
  refine va_putF (D := (dC, dI)) (ci := 0) (v := .int ge) (ty := .int) (C := RX0) (T := TX0) (N := 8) hx hb hts hi0 tyX0 tyX0_ok nmX0 hown hK hP hD hS j660007 hj660007 rfl 3 (by decide) (hts (.fieldLink RX0 21 "TallyLogs$Entry" "generation" "I") (by decide +kernel)) (fun _ h9 => h9) rfl hin rfl (by decide +kernel) rfl rfl (Nat.le_of_ble_eq_true rfl) dX0_init_21 (fun H locs hP hD hS => ?_)
  have hP := Eq.mp (congrArg (fun w => va_P (dC, dI) vwCl w H) (pP_0_3 (x := ge) hDo ha hk hj660007)) hP
  obtain ⟨I660008, eI660008⟩ : ∃ z, z = p2 I660006 a 3 ge := ⟨_, rfl⟩
  rw [← eI660008] at hP
  have hR : RS v I660008 Q J I660008 Q J := RS.rf
  have hC : CT v L K N T I660008 Q := by rw [eI660008]; exact hC.pi (by rw [hk]; decide)
  have hD : va_D A (va_pl L (pF cy K N T I660008 Q J)) := pD hDo
  refine lv_aload_n hx hb dX0_init_24 rfl (lv_at hl 0 rfl) ?_
  refine lv_iload hx hb dX0_init_25 (lv_at hl 4 rfl) ?_
  obtain ⟨j660009, hj660009⟩ := pG_0 (cy := cy) (N := N) (T := T) (I := I660008) (Q := Q) (J := J) ha hk
  have hDo := hD
  refine va_putF (D := (dC, dI)) (ci := 0) (v := .int sq) (ty := .int) (C := RX0) (T := TX0) (N := 8) hx hb hts hi0 tyX0 tyX0_ok nmX0 hown hK hP hD hS j660009 hj660009 rfl 4 (by decide) (hts (.fieldLink RX0 24 "TallyLogs$Entry" "seq" "I") (by decide +kernel)) (fun _ h9 => h9) rfl hin rfl (by decide +kernel) rfl rfl (Nat.le_of_ble_eq_true rfl) dX0_init_27 (fun H locs hP hD hS => ?_)
  have hP := Eq.mp (congrArg (fun w => va_P (dC, dI) vwCl w H) (pP_0_4 (x := sq) hDo ha hk hj660009)) hP
  obtain ⟨I660010, eI660010⟩ : ∃ z, z = p2 I660008 a 4 sq := ⟨_, rfl⟩
  rw [← eI660010] at hP
  have hR : RS v I660010 Q J I660010 Q J := RS.rf
  have hC : CT v L K N T I660010 Q := by rw [eI660010]; exact hC.pi (by rw [hk]; decide)
  have hD : va_D A (va_pl L (pF cy K N T I660010 Q J)) := pD hDo
  refine lv_aload_n hx hb dX0_init_30 rfl (lv_at hl 0 rfl) ?_
  refine lv_iload hx hb dX0_init_31 (lv_at hl 5 rfl) ?_
  obtain ⟨j660011, hj660011⟩ := pG_0 (cy := cy) (N := N) (T := T) (I := I660010) (Q := Q) (J := J) ha hk
  have hDo := hD
  refine va_putF (D := (dC, dI)) (ci := 0) (v := .int ke) (ty := .int) (C := RX0) (T := TX0) (N := 8) hx hb hts hi0 tyX0 tyX0_ok nmX0 hown hK hP hD hS j660011 hj660011 rfl 5 (by decide) (hts (.fieldLink RX0 27 "TallyLogs$Entry" "key" "I") (by decide +kernel)) (fun _ h9 => h9) rfl hin rfl (by decide +kernel) rfl rfl (Nat.le_of_ble_eq_true rfl) dX0_init_33 (fun H locs hP hD hS => ?_)
  have hP := Eq.mp (congrArg (fun w => va_P (dC, dI) vwCl w H) (pP_0_5 (x := ke) hDo ha hk hj660011)) hP
  obtain ⟨I660012, eI660012⟩ : ∃ z, z = p2 I660010 a 5 ke := ⟨_, rfl⟩
  rw [← eI660012] at hP
  have hR : RS v I660012 Q J I660012 Q J := RS.rf
  have hC : CT v L K N T I660012 Q := by rw [eI660012]; exact hC.pi (by rw [hk]; decide)
  have hD : va_D A (va_pl L (pF cy K N T I660012 Q J)) := pD hDo
  refine lv_aload_n hx hb dX0_init_36 rfl (lv_at hl 0 rfl) ?_
  refine lv_iload hx hb dX0_init_37 (lv_at hl 6 rfl) ?_
  obtain ⟨j660013, hj660013⟩ := pG_0 (cy := cy) (N := N) (T := T) (I := I660012) (Q := Q) (J := J) ha hk
  have hDo := hD
  refine va_putF (D := (dC, dI)) (ci := 0) (v := .int va) (ty := .int) (C := RX0) (T := TX0) (N := 8) hx hb hts hi0 tyX0 tyX0_ok nmX0 hown hK hP hD hS j660013 hj660013 rfl 6 (by decide) (hts (.fieldLink RX0 30 "TallyLogs$Entry" "value" "I") (by decide +kernel)) (fun _ h9 => h9) rfl hin rfl (by decide +kernel) rfl rfl (Nat.le_of_ble_eq_true rfl) dX0_init_39 (fun H locs hP hD hS => ?_)
  have hP := Eq.mp (congrArg (fun w => va_P (dC, dI) vwCl w H) (pP_0_6 (x := va) hDo ha hk hj660013)) hP
  obtain ⟨I660014, eI660014⟩ : ∃ z, z = p2 I660012 a 6 va := ⟨_, rfl⟩
  rw [← eI660014] at hP
  have hR : RS v I660014 Q J I660014 Q J := RS.rf
  have hC : CT v L K N T I660014 Q := by rw [eI660014]; exact hC.pi (by rw [hk]; decide)
  have hD : va_D A (va_pl L (pF cy K N T I660014 Q J)) := pD hDo
  refine lv_aload_n hx hb dX0_init_42 rfl (lv_at hl 0 rfl) ?_
  refine lv_iload hx hb dX0_init_43 (lv_at hl 7 rfl) ?_
  obtain ⟨j660015, hj660015⟩ := pG_0 (cy := cy) (N := N) (T := T) (I := I660014) (Q := Q) (J := J) ha hk
  have hDo := hD
  refine va_putF (D := (dC, dI)) (ci := 0) (v := .int bo) (ty := .boolean) (C := RX0) (T := TX0) (N := 8) hx hb hts hi0 tyX0 tyX0_ok nmX0 hown hK hP hD hS j660015 hj660015 rfl 7 (by decide) (hts (.fieldLink RX0 33 "TallyLogs$Entry" "bound" "Z") (by decide +kernel)) (fun _ h9 => h9) rfl hin rfl (by decide +kernel) hcm hcf (Nat.le_of_ble_eq_true rfl) dX0_init_45 (fun H locs hP hD hS => ?_)
  have hP := Eq.mp (congrArg (fun w => va_P (dC, dI) vwCl w H) (pP_0_7 (x := bo) hDo ha hk hj660015)) hP
  obtain ⟨I660016, eI660016⟩ : ∃ z, z = p2 I660014 a 7 bo := ⟨_, rfl⟩
  rw [← eI660016] at hP
  have hR : RS v I660016 Q J I660016 Q J := RS.rf
  have hC : CT v L K N T I660016 Q := by rw [eI660016]; exact hC.pi (by rw [hk]; decide)
  have hD : va_D A (va_pl L (pF cy K N T I660016 Q J)) := pD hDo
  exact W.vret hx hb hr (fun t ht hW => ⟨⟨(I660016, Q, J), rfl, ⟨hC, (fun b hb => by show I660016 b = I b; rw [eI660016, p2_na _ _ hb, eI660014, p2_na _ _ hb, eI660012, p2_na _ _ hb, eI660010, p2_na _ _ hb, eI660008, p2_na _ _ hb, eI660006, p2_na _ _ hb, eI660004, p2_na _ _ hb, eI660002, p2_na _ _ hb]), r8_of (by show I660016 a 0 = _; rw [eI660016, p2_ne _ _ (by omega), eI660014, p2_ne _ _ (by omega), eI660012, p2_ne _ _ (by omega), eI660010, p2_ne _ _ (by omega), eI660008, p2_ne _ _ (by omega), eI660006, p2_ne _ _ (by omega), eI660004, p2_ne _ _ (by omega), eI660002, p2_at] <;> rfl) (by show I660016 a 1 = _; rw [eI660016, p2_ne _ _ (by omega), eI660014, p2_ne _ _ (by omega), eI660012, p2_ne _ _ (by omega), eI660010, p2_ne _ _ (by omega), eI660008, p2_ne _ _ (by omega), eI660006, p2_ne _ _ (by omega), eI660004, p2_at] <;> rfl) (by show I660016 a 2 = _; rw [eI660016, p2_ne _ _ (by omega), eI660014, p2_ne _ _ (by omega), eI660012, p2_ne _ _ (by omega), eI660010, p2_ne _ _ (by omega), eI660008, p2_ne _ _ (by omega), eI660006, p2_at] <;> rfl) (by show I660016 a 3 = _; rw [eI660016, p2_ne _ _ (by omega), eI660014, p2_ne _ _ (by omega), eI660012, p2_ne _ _ (by omega), eI660010, p2_ne _ _ (by omega), eI660008, p2_at] <;> rfl) (by show I660016 a 4 = _; rw [eI660016, p2_ne _ _ (by omega), eI660014, p2_ne _ _ (by omega), eI660012, p2_ne _ _ (by omega), eI660010, p2_at] <;> rfl) (by show I660016 a 5 = _; rw [eI660016, p2_ne _ _ (by omega), eI660014, p2_ne _ _ (by omega), eI660012, p2_at] <;> rfl) (by show I660016 a 6 = _; rw [eI660016, p2_ne _ _ (by omega), eI660014, p2_at] <;> rfl) (by show I660016 a 7 = _; rw [eI660016, p2_at] <;> rfl), rfl, rfl⟩, by rw [ht]; exact hP, va_K.moved hW.alike hK, hD⟩, hS.F ht⟩) hS.2.2 dX0_init_48
set_option maxHeartbeats 4000000 in
set_option maxRecDepth 100000 in
/-- Entry(epoch, kind, producer, generation), exactly -/
theorem g_X0_init_ (l : Launch) (dC : Nat → ClassId) (dI : Nat → Nat → Nat) (cy : Nat → ClassId) (v : Nat → Nat) (L : List Nat) (K N : Nat → Nat) (T : Nat → Nat → Nat) (I : Nat → Nat → Int32) (Q : Nat → Nat → Option Nat) (J : Nat → Nat → Int32) (sz : Nat) (a : Nat) (ep : Int32) (kd : Int32) (pr : Int32) (ge : Int32) (hC : CT v L K N T I Q) (ha : a ∈ L) (hk : K a = 0) : Met l yX0_init_ wsX0_init_ ({ frames := 1, cells := 0, slots := 0, locals := 12 }) (va_Pc [.ref a, .int ep, .int kd, .int pr, .int ge] (pW dC dI cy L (pF cy K N T I Q J) sz)) (va_Qv (fun d : (Nat → Nat → Int32) × (Nat → Nat → Option Nat) × (Nat → Nat → Int32) => CT v L K N T d.1 d.2.1 ∧ (∀ b, ¬ b = a → d.1 b = I b) ∧ (∀ f, f < 8 → d.1 a f = r8 ep kd pr ge (-1) 0 0 0 f) ∧ d.2.1 = Q ∧ d.2.2 = J) (fun (d : (Nat → Nat → Int32) × (Nat → Nat → Option Nat) × (Nat → Nat → Int32)) t => va_P (dC, dI) vwCl (va_pl L (pF cy K N T d.1 d.2.1 d.2.2)) t.heap ∧ va_K (dC, dI) vwCl (pTy cy) t ∧ va_D (va_A (va_pl L (pF cy K N T I Q J)) sz) (va_pl L (pF cy K N T d.1 d.2.1 d.2.2))) (va_A (va_pl L (pF cy K N T I Q J)) sz)) 0 0 (va_A (va_pl L (pF cy K N T I Q J)) sz) := by
  refine Met.ofW (cc := cX0_init_) (maxL := 5) (ret := none) (by decide) rfl ?_
  intro p e s m args below meth c s₁ B hml hv
  obtain ⟨rfl, hsz, ⟨hP, hK, hN⟩, hD0⟩ := hv
  have hx := B.exec
  have hb := B.bytes
  have hr := B.returns
  have hts := atoms_spec (ws := wsX0_init_) B.pre
  have hown : s.vm.findClass RX0 = some m.cls := findClass_of_methodNamed B.named
  have hlocks := B.notSynchronized
  have hi0 : ∀ w ∈ wsX00, w ∈ wsX0_init_ := by decide +kernel
  have hl := lv_entry ([.ref a, .int ep, .int kd, .int pr, .int ge]) (n := 5) (Nat.le_of_ble_eq_true rfl)
  rw [lg_entry_eq]
  generalize (lg_sl ([.ref a, .int ep, .int kd, .int pr, .int ge]) ++ List.replicate (5 - (lg_sl ([.ref a, .int ep, .int kd, .int pr, .int ge])).length) Slot.unset).toArray = ls at hl ⊢
  have hl : lv_has ls 5 [(0, .ref a), (1, .int ep), (2, .int kd), (3, .int pr), (4, .int ge)] := hl
  subst hsz
  have hD := hD0.self (sz := s.heap.size)
  generalize hAe : va_A (va_pl L (pF cy K N T I Q J)) s.heap.size = A at hD ⊢
  have hA : ∀ q : Nat, s.heap.size ≤ q → A q := fun q h => by rw [← hAe]; exact Or.inr h
  have hS : va_S A s.heap s.heap [] := va_S.rf
  have hR : RS v I Q J I Q J := RS.rf
  have hn28 := hN.1
  have hn30 := hN.2.1
  have hn37 := hN.2.2.1
  have hin : meth.name = "<init>" := (name_of_methodNamed B.named B.method).1
  refine lv_aload_n hx hb dX0_init__0 rfl (lv_at hl 0 rfl) ?_
  refine W.objInit hx hb hown (hts (.methodLink RX0 3 objectInit) (by decide +kernel)) (hts (.instanceMethod objectInit) (by decide +kernel)) (hts _ (List.mem_of_getElem? (i := 3) rfl)) rfl (by rw [hml]; exact hl.1) rfl dX0_init__1 (Nat.le_of_ble_eq_true rfl) (Nat.le_of_ble_eq_true rfl) ?_
  refine W.eq (g2 := F0 m 4 ls []) rfl ?_
  refine lv_aload_n hx hb dX0_init__4 rfl (lv_at hl 0 rfl) ?_
  refine lv_iload_n hx hb dX0_init__5 rfl (lv_at hl 1 rfl) ?_
  obtain ⟨j660017, hj660017⟩ := pG_0 (cy := cy) (N := N) (T := T) (I := I) (Q := Q) (J := J) ha hk
  have hDo := hD
  refine va_putF (D := (dC, dI)) (ci := 0) (v := .int ep) (ty := .int) (C := RX0) (T := TX0) (N := 8) hx hb hts hi0 tyX0 tyX0_ok nmX0 hown hK hP hD hS j660017 hj660017 rfl 0 (by decide) (hts (.fieldLink RX0 9 "TallyLogs$Entry" "epoch" "I") (by decide +kernel)) (fun _ h9 => h9) rfl hin rfl (by decide +kernel) rfl rfl (Nat.le_of_ble_eq_true rfl) dX0_init__6 (fun H locs hP hD hS => ?_)
  have hP := Eq.mp (congrArg (fun w => va_P (dC, dI) vwCl w H) (pP_0_0 (x := ep) hDo ha hk hj660017)) hP
  obtain ⟨I660018, eI660018⟩ : ∃ z, z = p2 I a 0 ep := ⟨_, rfl⟩
  rw [← eI660018] at hP
  have hR : RS v I660018 Q J I660018 Q J := RS.rf
  have hC : CT v L K N T I660018 Q := by rw [eI660018]; exact hC.pi (by rw [hk]; decide)
  have hD : va_D A (va_pl L (pF cy K N T I660018 Q J)) := pD hDo
  refine lv_aload_n hx hb dX0_init__9 rfl (lv_at hl 0 rfl) ?_
  refine lv_iload_n hx hb dX0_init__10 rfl (lv_at hl 2 rfl) ?_
  obtain ⟨j660019, hj660019⟩ := pG_0 (cy := cy) (N := N) (T := T) (I := I660018) (Q := Q) (J := J) ha hk
  have hDo := hD
  refine va_putF (D := (dC, dI)) (ci := 0) (v := .int kd) (ty := .int) (C := RX0) (T := TX0) (N := 8) hx hb hts hi0 tyX0 tyX0_ok nmX0 hown hK hP hD hS j660019 hj660019 rfl 1 (by decide) (hts (.fieldLink RX0 15 "TallyLogs$Entry" "kind" "I") (by decide +kernel)) (fun _ h9 => h9) rfl hin rfl (by decide +kernel) rfl rfl (Nat.le_of_ble_eq_true rfl) dX0_init__11 (fun H locs hP hD hS => ?_)
  have hP := Eq.mp (congrArg (fun w => va_P (dC, dI) vwCl w H) (pP_0_1 (x := kd) hDo ha hk hj660019)) hP
  obtain ⟨I660020, eI660020⟩ : ∃ z, z = p2 I660018 a 1 kd := ⟨_, rfl⟩
  rw [← eI660020] at hP
  have hR : RS v I660020 Q J I660020 Q J := RS.rf
  have hC : CT v L K N T I660020 Q := by rw [eI660020]; exact hC.pi (by rw [hk]; decide)
  have hD : va_D A (va_pl L (pF cy K N T I660020 Q J)) := pD hDo
  refine lv_aload_n hx hb dX0_init__14 rfl (lv_at hl 0 rfl) ?_
  refine lv_iload_n hx hb dX0_init__15 rfl (lv_at hl 3 rfl) ?_
  obtain ⟨j660021, hj660021⟩ := pG_0 (cy := cy) (N := N) (T := T) (I := I660020) (Q := Q) (J := J) ha hk
  have hDo := hD
  refine va_putF (D := (dC, dI)) (ci := 0) (v := .int pr) (ty := .int) (C := RX0) (T := TX0) (N := 8) hx hb hts hi0 tyX0 tyX0_ok nmX0 hown hK hP hD hS j660021 hj660021 rfl 2 (by decide) (hts (.fieldLink RX0 18 "TallyLogs$Entry" "producer" "I") (by decide +kernel)) (fun _ h9 => h9) rfl hin rfl (by decide +kernel) rfl rfl (Nat.le_of_ble_eq_true rfl) dX0_init__16 (fun H locs hP hD hS => ?_)
  have hP := Eq.mp (congrArg (fun w => va_P (dC, dI) vwCl w H) (pP_0_2 (x := pr) hDo ha hk hj660021)) hP
  obtain ⟨I660022, eI660022⟩ : ∃ z, z = p2 I660020 a 2 pr := ⟨_, rfl⟩
  rw [← eI660022] at hP
  have hR : RS v I660022 Q J I660022 Q J := RS.rf
  have hC : CT v L K N T I660022 Q := by rw [eI660022]; exact hC.pi (by rw [hk]; decide)
  have hD : va_D A (va_pl L (pF cy K N T I660022 Q J)) := pD hDo
  refine lv_aload_n hx hb dX0_init__19 rfl (lv_at hl 0 rfl) ?_
  refine lv_iload hx hb dX0_init__20 (lv_at hl 4 rfl) ?_
  obtain ⟨j660023, hj660023⟩ := pG_0 (cy := cy) (N := N) (T := T) (I := I660022) (Q := Q) (J := J) ha hk
  have hDo := hD
  refine va_putF (D := (dC, dI)) (ci := 0) (v := .int ge) (ty := .int) (C := RX0) (T := TX0) (N := 8) hx hb hts hi0 tyX0 tyX0_ok nmX0 hown hK hP hD hS j660023 hj660023 rfl 3 (by decide) (hts (.fieldLink RX0 21 "TallyLogs$Entry" "generation" "I") (by decide +kernel)) (fun _ h9 => h9) rfl hin rfl (by decide +kernel) rfl rfl (Nat.le_of_ble_eq_true rfl) dX0_init__22 (fun H locs hP hD hS => ?_)
  have hP := Eq.mp (congrArg (fun w => va_P (dC, dI) vwCl w H) (pP_0_3 (x := ge) hDo ha hk hj660023)) hP
  obtain ⟨I660024, eI660024⟩ : ∃ z, z = p2 I660022 a 3 ge := ⟨_, rfl⟩
  rw [← eI660024] at hP
  have hR : RS v I660024 Q J I660024 Q J := RS.rf
  have hC : CT v L K N T I660024 Q := by rw [eI660024]; exact hC.pi (by rw [hk]; decide)
  have hD : va_D A (va_pl L (pF cy K N T I660024 Q J)) := pD hDo
  refine lv_aload_n hx hb dX0_init__25 rfl (lv_at hl 0 rfl) ?_
  refine lv_iconst (v := (-1)) hx hb dX0_init__26 (by decide) ?_
  obtain ⟨j660025, hj660025⟩ := pG_0 (cy := cy) (N := N) (T := T) (I := I660024) (Q := Q) (J := J) ha hk
  have hDo := hD
  refine va_putF (D := (dC, dI)) (ci := 0) (v := .int (-1)) (ty := .int) (C := RX0) (T := TX0) (N := 8) hx hb hts hi0 tyX0 tyX0_ok nmX0 hown hK hP hD hS j660025 hj660025 rfl 4 (by decide) (hts (.fieldLink RX0 24 "TallyLogs$Entry" "seq" "I") (by decide +kernel)) (fun _ h9 => h9) rfl hin rfl (by decide +kernel) rfl rfl (Nat.le_of_ble_eq_true rfl) dX0_init__27 (fun H locs hP hD hS => ?_)
  have hP := Eq.mp (congrArg (fun w => va_P (dC, dI) vwCl w H) (pP_0_4 (x := (-1)) hDo ha hk hj660025)) hP
  obtain ⟨I660026, eI660026⟩ : ∃ z, z = p2 I660024 a 4 (-1) := ⟨_, rfl⟩
  rw [← eI660026] at hP
  have hR : RS v I660026 Q J I660026 Q J := RS.rf
  have hC : CT v L K N T I660026 Q := by rw [eI660026]; exact hC.pi (by rw [hk]; decide)
  have hD : va_D A (va_pl L (pF cy K N T I660026 Q J)) := pD hDo
  refine lv_aload_n hx hb dX0_init__30 rfl (lv_at hl 0 rfl) ?_
  refine lv_iconst (v := 0) hx hb dX0_init__31 (by decide) ?_
  obtain ⟨j660027, hj660027⟩ := pG_0 (cy := cy) (N := N) (T := T) (I := I660026) (Q := Q) (J := J) ha hk
  have hDo := hD
  refine va_putF (D := (dC, dI)) (ci := 0) (v := .int 0) (ty := .int) (C := RX0) (T := TX0) (N := 8) hx hb hts hi0 tyX0 tyX0_ok nmX0 hown hK hP hD hS j660027 hj660027 rfl 5 (by decide) (hts (.fieldLink RX0 27 "TallyLogs$Entry" "key" "I") (by decide +kernel)) (fun _ h9 => h9) rfl hin rfl (by decide +kernel) rfl rfl (Nat.le_of_ble_eq_true rfl) dX0_init__32 (fun H locs hP hD hS => ?_)
  have hP := Eq.mp (congrArg (fun w => va_P (dC, dI) vwCl w H) (pP_0_5 (x := 0) hDo ha hk hj660027)) hP
  obtain ⟨I660028, eI660028⟩ : ∃ z, z = p2 I660026 a 5 0 := ⟨_, rfl⟩
  rw [← eI660028] at hP
  have hR : RS v I660028 Q J I660028 Q J := RS.rf
  have hC : CT v L K N T I660028 Q := by rw [eI660028]; exact hC.pi (by rw [hk]; decide)
  have hD : va_D A (va_pl L (pF cy K N T I660028 Q J)) := pD hDo
  refine lv_aload_n hx hb dX0_init__35 rfl (lv_at hl 0 rfl) ?_
  refine lv_iconst (v := 0) hx hb dX0_init__36 (by decide) ?_
  obtain ⟨j660029, hj660029⟩ := pG_0 (cy := cy) (N := N) (T := T) (I := I660028) (Q := Q) (J := J) ha hk
  have hDo := hD
  refine va_putF (D := (dC, dI)) (ci := 0) (v := .int 0) (ty := .int) (C := RX0) (T := TX0) (N := 8) hx hb hts hi0 tyX0 tyX0_ok nmX0 hown hK hP hD hS j660029 hj660029 rfl 6 (by decide) (hts (.fieldLink RX0 30 "TallyLogs$Entry" "value" "I") (by decide +kernel)) (fun _ h9 => h9) rfl hin rfl (by decide +kernel) rfl rfl (Nat.le_of_ble_eq_true rfl) dX0_init__37 (fun H locs hP hD hS => ?_)
  have hP := Eq.mp (congrArg (fun w => va_P (dC, dI) vwCl w H) (pP_0_6 (x := 0) hDo ha hk hj660029)) hP
  obtain ⟨I660030, eI660030⟩ : ∃ z, z = p2 I660028 a 6 0 := ⟨_, rfl⟩
  rw [← eI660030] at hP
  have hR : RS v I660030 Q J I660030 Q J := RS.rf
  have hC : CT v L K N T I660030 Q := by rw [eI660030]; exact hC.pi (by rw [hk]; decide)
  have hD : va_D A (va_pl L (pF cy K N T I660030 Q J)) := pD hDo
  refine lv_aload_n hx hb dX0_init__40 rfl (lv_at hl 0 rfl) ?_
  refine lv_iconst (v := 0) hx hb dX0_init__41 (by decide) ?_
  obtain ⟨j660031, hj660031⟩ := pG_0 (cy := cy) (N := N) (T := T) (I := I660030) (Q := Q) (J := J) ha hk
  have hDo := hD
  refine va_putF (D := (dC, dI)) (ci := 0) (v := .int 0) (ty := .boolean) (C := RX0) (T := TX0) (N := 8) hx hb hts hi0 tyX0 tyX0_ok nmX0 hown hK hP hD hS j660031 hj660031 rfl 7 (by decide) (hts (.fieldLink RX0 33 "TallyLogs$Entry" "bound" "Z") (by decide +kernel)) (fun _ h9 => h9) rfl hin rfl (by decide +kernel) rfl rfl (Nat.le_of_ble_eq_true rfl) dX0_init__42 (fun H locs hP hD hS => ?_)
  have hP := Eq.mp (congrArg (fun w => va_P (dC, dI) vwCl w H) (pP_0_7 (x := 0) hDo ha hk hj660031)) hP
  obtain ⟨I660032, eI660032⟩ : ∃ z, z = p2 I660030 a 7 0 := ⟨_, rfl⟩
  rw [← eI660032] at hP
  have hR : RS v I660032 Q J I660032 Q J := RS.rf
  have hC : CT v L K N T I660032 Q := by rw [eI660032]; exact hC.pi (by rw [hk]; decide)
  have hD : va_D A (va_pl L (pF cy K N T I660032 Q J)) := pD hDo
  exact W.vret hx hb hr (fun t ht hW => ⟨⟨(I660032, Q, J), rfl, ⟨hC, (fun b hb => by show I660032 b = I b; rw [eI660032, p2_na _ _ hb, eI660030, p2_na _ _ hb, eI660028, p2_na _ _ hb, eI660026, p2_na _ _ hb, eI660024, p2_na _ _ hb, eI660022, p2_na _ _ hb, eI660020, p2_na _ _ hb, eI660018, p2_na _ _ hb]), r8_of (by show I660032 a 0 = _; rw [eI660032, p2_ne _ _ (by omega), eI660030, p2_ne _ _ (by omega), eI660028, p2_ne _ _ (by omega), eI660026, p2_ne _ _ (by omega), eI660024, p2_ne _ _ (by omega), eI660022, p2_ne _ _ (by omega), eI660020, p2_ne _ _ (by omega), eI660018, p2_at] <;> rfl) (by show I660032 a 1 = _; rw [eI660032, p2_ne _ _ (by omega), eI660030, p2_ne _ _ (by omega), eI660028, p2_ne _ _ (by omega), eI660026, p2_ne _ _ (by omega), eI660024, p2_ne _ _ (by omega), eI660022, p2_ne _ _ (by omega), eI660020, p2_at] <;> rfl) (by show I660032 a 2 = _; rw [eI660032, p2_ne _ _ (by omega), eI660030, p2_ne _ _ (by omega), eI660028, p2_ne _ _ (by omega), eI660026, p2_ne _ _ (by omega), eI660024, p2_ne _ _ (by omega), eI660022, p2_at] <;> rfl) (by show I660032 a 3 = _; rw [eI660032, p2_ne _ _ (by omega), eI660030, p2_ne _ _ (by omega), eI660028, p2_ne _ _ (by omega), eI660026, p2_ne _ _ (by omega), eI660024, p2_at] <;> rfl) (by show I660032 a 4 = _; rw [eI660032, p2_ne _ _ (by omega), eI660030, p2_ne _ _ (by omega), eI660028, p2_ne _ _ (by omega), eI660026, p2_at] <;> rfl) (by show I660032 a 5 = _; rw [eI660032, p2_ne _ _ (by omega), eI660030, p2_ne _ _ (by omega), eI660028, p2_at] <;> rfl) (by show I660032 a 6 = _; rw [eI660032, p2_ne _ _ (by omega), eI660030, p2_at] <;> rfl) (by show I660032 a 7 = _; rw [eI660032, p2_at] <;> rfl), rfl, rfl⟩, by rw [ht]; exact hP, va_K.moved hW.alike hK, hD⟩, hS.F ht⟩) hS.2.2 dX0_init__45
set_option maxHeartbeats 4000000 in
set_option maxRecDepth 100000 in
/-- newData by a Producer, exactly -/
theorem g_X5_newData (l : Launch) (dC : Nat → ClassId) (dI : Nat → Nat → Nat) (cy : Nat → ClassId) (v : Nat → Nat) (L : List Nat) (K N : Nat → Nat) (T : Nat → Nat → Nat) (I : Nat → Nat → Int32) (Q : Nat → Nat → Option Nat) (J : Nat → Nat → Int32) (sz : Nat) (pa ra : Nat → Nat) (kx : Nat → Prop) (σ : SG) (jk : Nat) (ep sq ke va : Int32) (hE : REP v pa ra L K N T I Q J kx σ) (hjk : jk < 6) : Met l yX5_newData wsX5_newData ({ frames := 2, cells := 1, slots := 8, locals := 39 }) (va_Pc [.int ep, .ref (v (4 + jk)), .int sq, .int ke, .int va] (pW dC dI cy L (pF cy K N T I Q J) sz)) (va_Qr (fun d : List Nat × (Nat → Nat) × (Nat → Nat → Nat) × (Nat → Nat → Int32) × (Nat → Nat → Option Nat) × (Nat → Nat → Int32) => CT v d.1 d.2.1 N d.2.2.1 d.2.2.2.1 d.2.2.2.2.1 ∧ PX L K N T d.1 d.2.1 N d.2.2.1 ∧ (∀ b, b ∈ L → d.2.2.2.1 b = I b ∧ d.2.2.2.2.1 b = Q b) ∧ d.2.2.2.2.2 = J) (fun (d : List Nat × (Nat → Nat) × (Nat → Nat → Nat) × (Nat → Nat → Int32) × (Nat → Nat → Option Nat) × (Nat → Nat → Int32)) (rz : Nat) t => ((rz ∈ d.1 ∧ d.2.1 rz = 0) ∧ ∀ f, f < 8 → d.2.2.2.1 rz f = r8 ep 0 (nI jk) (σ.1 8 jk) sq ke va (if σ.1 9 jk = 1 then 1 else 0) f) ∧ va_P (dC, dI) vwCl (va_pl d.1 (pF cy d.2.1 N d.2.2.1 d.2.2.2.1 d.2.2.2.2.1 d.2.2.2.2.2)) t.heap ∧ va_K (dC, dI) vwCl (pTy cy) t ∧ va_D (va_A (va_pl L (pF cy K N T I Q J)) sz) (va_pl d.1 (pF cy d.2.1 N d.2.2.1 d.2.2.2.1 d.2.2.2.2.1 d.2.2.2.2.2))) (va_A (va_pl L (pF cy K N T I Q J)) sz)) 1 8 (va_A (va_pl L (pF cy K N T I Q J)) sz) := by
  refine Met.ofW (cc := cX5_newData) (maxL := 5) (ret := (some (.object "TallyLogs$Entry"))) (by decide) rfl ?_
  intro p e s m args below meth c s₁ B hml hv
  obtain ⟨rfl, hsz, ⟨hP, hK, hN⟩, hD0⟩ := hv
  have hx := B.exec
  have hb := B.bytes
  have hr := B.returns
  have hts := atoms_spec (ws := wsX5_newData) B.pre
  have hown : s.vm.findClass RX5 = some m.cls := findClass_of_methodNamed B.named
  have hlocks := B.notSynchronized
  have hi0 : ∀ w ∈ wsX00, w ∈ wsX5_newData := by decide +kernel
  have hi3 : ∀ w ∈ wsX30, w ∈ wsX5_newData := by decide +kernel
  have hl := lv_entry ([.int ep, .ref (v (4 + jk)), .int sq, .int ke, .int va]) (n := 5) (Nat.le_of_ble_eq_true rfl)
  rw [lg_entry_eq]
  generalize (lg_sl ([.int ep, .ref (v (4 + jk)), .int sq, .int ke, .int va]) ++ List.replicate (5 - (lg_sl ([.int ep, .ref (v (4 + jk)), .int sq, .int ke, .int va])).length) Slot.unset).toArray = ls at hl ⊢
  have hl : lv_has ls 5 [(0, .int ep), (1, .ref (v (4 + jk))), (2, .int sq), (3, .int ke), (4, .int va)] := hl
  subst hsz
  have hD := hD0.self (sz := s.heap.size)
  generalize hAe : va_A (va_pl L (pF cy K N T I Q J)) s.heap.size = A at hD ⊢
  have hA : ∀ q : Nat, s.heap.size ≤ q → A q := fun q h => by rw [← hAe]; exact Or.inr h
  have hS : va_S A s.heap s.heap [] := va_S.rf
  have hR : RS v I Q J I Q J := RS.rf
  have hn28 := hN.1
  have hn30 := hN.2.1
  have hn37 := hN.2.2.1
  have hC := hE.ct
  refine lv_aload_n hx hb dX5_newData_0 rfl (lv_at hl 1 rfl) ?_
  refine lv_ifnonnull (tgt := 20) hx hb dX5_newData_1 (by decide) ?_
  refine va_new (ci := 0) (fs := [.int 0, .int 0, .int 0, .int 0, .int 0, .int 0, .int 0, .int 0]) (C := RX0) (T := TX0) (N := 8) hx hb hts hi0 tyX0 tyX0_ok hown (hts (.classLink RX5 179 RX0) (by decide +kernel)) (hts (.instantiable RX0 8) (by decide +kernel)) (hts (.initialized RX0) (by decide +kernel)) hK hP hD hS hA rfl (fun j hj => by rcases (show j = 0 ∨ j = 1 ∨ j = 2 ∨ j = 3 ∨ j = 4 ∨ j = 5 ∨ j = 6 ∨ j = 7 by omega) with rfl | rfl | rfl | rfl | rfl | rfl | rfl | rfl <;> rfl) (Nat.le_of_ble_eq_true rfl) (Nat.le_of_ble_eq_true rfl) dX5_newData_20 (fun q660033 H hP hD hS => ?_)
  refine W.widen (k := 1) (n := 8) (by omega) (by omega) ?_
  have hE0 := hE
  obtain ⟨L, K, T, I660034, Q660034, ⟨⟨hP, hD, hC⟩, hXe, hIQ⟩, ⟨hLq660033, hkq660033⟩, hnq⟩ := pNew0x hC hP hD
  have hR : RS v I660034 Q660034 J I660034 Q660034 J := RS.rf
  have hE : REP v pa ra L K N T I660034 Q660034 J kx σ := hE0.mv hC (fun b hb => (hXe b hb).2.2.2) (fun b hb => (hIQ b hb).1) (fun b hb => (hIQ b hb).2) (fun _ _ => rfl)
  refine lv_dup hx hb dX5_newData_23 rfl ?_
  refine lv_iload_n hx hb dX5_newData_24 rfl (lv_at hl 0 rfl) ?_
  refine lv_aload_n hx hb dX5_newData_25 rfl (lv_at hl 1 rfl) ?_
  obtain ⟨j660035, hj660035⟩ := pG_3 (cy := cy) (N := N) (T := T) (I := I660034) (Q := Q660034) (J := J) (hC.kp hjk).1 (hC.kp hjk).2
  refine va_get (D := (dC, dI)) (ci := 3) (v := .int (I660034 (v (4 + jk)) 0)) (C := RX3) (T := TX3) (N := 6) hx hb hts hi3 hown hK hP j660035 hj660035 rfl 0 (by decide) (hts (.fieldLink RX5 98 "TallyLogs$Producer" "number" "I") (by decide +kernel)) (fun _ h9 => h9) rfl dX5_newData_26 ?_
  refine lv_topi (fun x660036 ex660036 => ?_)
  have sx660036 : x660036 = nI jk := ex660036.trans (hE.pr jk hjk).1
  refine lv_aload_n hx hb dX5_newData_29 rfl (lv_at hl 1 rfl) ?_
  obtain ⟨j660037, hj660037⟩ := pG_3 (cy := cy) (N := N) (T := T) (I := I660034) (Q := Q660034) (J := J) (hC.kp hjk).1 (hC.kp hjk).2
  refine va_get (D := (dC, dI)) (ci := 3) (v := .int (I660034 (v (4 + jk)) 1)) (C := RX3) (T := TX3) (N := 6) hx hb hts hi3 hown hK hP j660037 hj660037 rfl 1 (by decide) (hts (.fieldLink RX5 75 "TallyLogs$Producer" "generation" "I") (by decide +kernel)) (fun _ h9 => h9) rfl dX5_newData_30 ?_
  refine lv_topi (fun x660038 ex660038 => ?_)
  have sx660038 : x660038 = σ.1 8 jk := ex660038.trans (hE.pr jk hjk).2.1
  refine lv_iload_n hx hb dX5_newData_33 rfl (lv_at hl 2 rfl) ?_
  refine lv_iload_n hx hb dX5_newData_34 rfl (lv_at hl 3 rfl) ?_
  refine lv_iload hx hb dX5_newData_35 (lv_at hl 4 rfl) ?_
  refine lv_aload_n hx hb dX5_newData_37 rfl (lv_at hl 1 rfl) ?_
  obtain ⟨j660039, hj660039⟩ := pG_3 (cy := cy) (N := N) (T := T) (I := I660034) (Q := Q660034) (J := J) (hC.kp hjk).1 (hC.kp hjk).2
  refine va_get (D := (dC, dI)) (ci := 3) (v := .int (I660034 (v (4 + jk)) 2)) (C := RX3) (T := TX3) (N := 6) hx hb hts hi3 hown hK hP j660039 hj660039 rfl 2 (by decide) (hts (.fieldLink RX5 78 "TallyLogs$Producer" "mode" "I") (by decide +kernel)) (fun _ h9 => h9) rfl dX5_newData_38 ?_
  refine lv_topi (fun x660040 ex660040 => ?_)
  have sx660040 : x660040 = σ.1 9 jk := ex660040.trans (hE.pr jk hjk).2.2.1
  refine lv_iconst (v := 1) hx hb dX5_newData_41 (by decide) ?_
  refine lv_icmp_ne (tgt := 49) hx hb dX5_newData_42 (by decide) (fun c660041 => ?_) (fun c660041 => ?_)
  · have kc660041 : ¬ (x660040.toInt = 1) := by have h9 := c660041; rw [xk_eq, xk_1] at h9; exact h9
    refine lv_iconst (v := 0) hx hb dX5_newData_49 (by decide) ?_
    have hFc := pfree hD hS hA
    refine va_callv (va_runI (As := [.int ep, .int x660036, .int x660038, .int sq, .int ke, .int va, .int 0]) (rest := [.ref q660033]) ⟨hx, hb, hml, hown, hts⟩ (g_X0_init l dC dI cy v L K N T I660034 Q660034 J H.size q660033 ep x660036 x660038 sq ke va 0 hC hLq660033 hkq660033 rfl rfl) (cwI 7 hts gX5_newData_X0_init rfl rfl rfl (hts (.initialized RX0) (by decide +kernel)) (hts (.methodLink RX5 251 yX0_init) (by decide +kernel)) (hts (.instanceMethod yX0_init) (by decide +kernel)) rfl (by decide +kernel) ⟨Nat.le_of_ble_eq_true rfl, Nat.le_of_ble_eq_true rfl⟩) ⟨pw_blind, fun U hU hW => ⟨rfl, pw_pre hP hK hN hD hU hW⟩⟩ rfl rfl hl.1 rfl (lv_room (Nat.le_of_ble_eq_true rfl)) dX5_newData_50 ⟨Nat.le_of_ble_eq_true rfl, Nat.le_of_ble_eq_true rfl⟩) hS (fun q _ h => hFc q h) hFc (fun d9 t H1 locs ht hvm hw hB hz1 hk1 hS => ?_)
    obtain ⟨I660042, Q660042, J660042⟩ := d9
    obtain ⟨hC, hIo, hIf, eQ660042, eJ660042⟩ := hw
    have hIo : ∀ b, ¬ b = q660033 → I660042 b = I660034 b := hIo
    have hIf : ∀ f, f < 8 → I660042 q660033 f = r8 ep 0 x660036 x660038 sq ke va 0 f := hIf
    have eQ660042 : Q660042 = Q660034 := eQ660042
    have eJ660042 : J660042 = J := eJ660042
    obtain ⟨hP, hK1, hD1⟩ := hB
    rw [ht] at hP
    have hD := hD1.weaken (fun _ _ _ h => hFc _ h)
    generalize H1 = H at hP hS ⊢
    have hP : va_P (dC, dI) vwCl (va_pl L (pF cy K N T I660042 Q660042 J660042)) H := hP
    have hD : va_D A (va_pl L (pF cy K N T I660042 Q660042 J660042)) := hD
    have hR : RS v I660042 Q660042 J660042 I660042 Q660042 J660042 := RS.rf
    have hC : CT v L K N T I660042 Q660042 := hC
    have hIQ : ∀ b, b ∈ _ → I660042 b = I b ∧ Q660042 b = Q b := fun b hb => ⟨(hIo b (fun z => hnq (z ▸ hb))).trans (hIQ b hb).1, (congrFun eQ660042 b).trans (hIQ b hb).2⟩
    have hE : REP v pa ra L K N T I660042 Q660042 J660042 kx σ := hE0.mv hC (fun b hb => (hXe b hb).2.2.2) (fun b hb => (hIQ b hb).1) (fun b hb => (hIQ b hb).2) (fun _ _ => by rw [eJ660042])
    refine W.widen (k := 1) (n := 8) (by omega) (by omega) ?_
    exact W.aret (v := .ref q660033) hx hb hr (Or.inl ⟨_, rfl⟩) (Or.inr ⟨_, rfl⟩) (fun t ht hW => ⟨⟨(L, K, T, I660042, Q660042, J660042), q660033, rfl, ⟨hC, hXe, hIQ, eJ660042⟩, ⟨⟨hLq660033, hkq660033⟩, (by intro f hf; show I660042 q660033 f = _; rw [hIf f hf, sx660036, sx660038, if_neg (fun z => c660041 (by rw [sx660040]; exact z))])⟩, by rw [ht]; exact hP, va_K.moved hW.alike hK, hD⟩, hS.F ht⟩) hS.2.2 dX5_newData_53
  · have kc660041 : x660040.toInt = 1 := by have h9 := c660041; rw [xk_eq, xk_1] at h9; exact h9
    refine lv_iconst (v := 1) hx hb dX5_newData_45 (by decide) ?_
    refine lv_goto (tgt := 50) hx hb dX5_newData_46 (by decide) ?_
    have hFc := pfree hD hS hA
    refine va_callv (va_runI (As := [.int ep, .int x660036, .int x660038, .int sq, .int ke, .int va, .int 1]) (rest := [.ref q660033]) ⟨hx, hb, hml, hown, hts⟩ (g_X0_init l dC dI cy v L K N T I660034 Q660034 J H.size q660033 ep x660036 x660038 sq ke va 1 hC hLq660033 hkq660033 rfl rfl) (cwI 7 hts gX5_newData_X0_init rfl rfl rfl (hts (.initialized RX0) (by decide +kernel)) (hts (.methodLink RX5 251 yX0_init) (by decide +kernel)) (hts (.instanceMethod yX0_init) (by decide +kernel)) rfl (by decide +kernel) ⟨Nat.le_of_ble_eq_true rfl, Nat.le_of_ble_eq_true rfl⟩) ⟨pw_blind, fun U hU hW => ⟨rfl, pw_pre hP hK hN hD hU hW⟩⟩ rfl rfl hl.1 rfl (lv_room (Nat.le_of_ble_eq_true rfl)) dX5_newData_50 ⟨Nat.le_of_ble_eq_true rfl, Nat.le_of_ble_eq_true rfl⟩) hS (fun q _ h => hFc q h) hFc (fun d9 t H1 locs ht hvm hw hB hz1 hk1 hS => ?_)
    obtain ⟨I660043, Q660043, J660043⟩ := d9
    obtain ⟨hC, hIo, hIf, eQ660043, eJ660043⟩ := hw
    have hIo : ∀ b, ¬ b = q660033 → I660043 b = I660034 b := hIo
    have hIf : ∀ f, f < 8 → I660043 q660033 f = r8 ep 0 x660036 x660038 sq ke va 1 f := hIf
    have eQ660043 : Q660043 = Q660034 := eQ660043
    have eJ660043 : J660043 = J := eJ660043
    obtain ⟨hP, hK1, hD1⟩ := hB
    rw [ht] at hP
    have hD := hD1.weaken (fun _ _ _ h => hFc _ h)
    generalize H1 = H at hP hS ⊢
    have hP : va_P (dC, dI) vwCl (va_pl L (pF cy K N T I660043 Q660043 J660043)) H := hP
    have hD : va_D A (va_pl L (pF cy K N T I660043 Q660043 J660043)) := hD
    have hR : RS v I660043 Q660043 J660043 I660043 Q660043 J660043 := RS.rf
    have hC : CT v L K N T I660043 Q660043 := hC
    have hIQ : ∀ b, b ∈ _ → I660043 b = I b ∧ Q660043 b = Q b := fun b hb => ⟨(hIo b (fun z => hnq (z ▸ hb))).trans (hIQ b hb).1, (congrFun eQ660043 b).trans (hIQ b hb).2⟩
    have hE : REP v pa ra L K N T I660043 Q660043 J660043 kx σ := hE0.mv hC (fun b hb => (hXe b hb).2.2.2) (fun b hb => (hIQ b hb).1) (fun b hb => (hIQ b hb).2) (fun _ _ => by rw [eJ660043])
    refine W.widen (k := 1) (n := 8) (by omega) (by omega) ?_
    exact W.aret (v := .ref q660033) hx hb hr (Or.inl ⟨_, rfl⟩) (Or.inr ⟨_, rfl⟩) (fun t ht hW => ⟨⟨(L, K, T, I660043, Q660043, J660043), q660033, rfl, ⟨hC, hXe, hIQ, eJ660043⟩, ⟨⟨hLq660033, hkq660033⟩, (by intro f hf; show I660043 q660033 f = _; rw [hIf f hf, sx660036, sx660038, if_pos (by rw [← sx660040]; exact c660041)])⟩, by rw [ht]; exact hP, va_K.moved hW.alike hK, hD⟩, hS.F ht⟩) hS.2.2 dX5_newData_53
set_option maxHeartbeats 4000000 in
set_option maxRecDepth 100000 in
/-- newData by nobody, exactly -/
theorem g_X5_newData0 (l : Launch) (dC : Nat → ClassId) (dI : Nat → Nat → Nat) (cy : Nat → ClassId) (v : Nat → Nat) (L : List Nat) (K N : Nat → Nat) (T : Nat → Nat → Nat) (I : Nat → Nat → Int32) (Q : Nat → Nat → Option Nat) (J : Nat → Nat → Int32) (sz : Nat) (pa ra : Nat → Nat) (kx : Nat → Prop) (σ : SG) (ep sq ke va : Int32) (hE : REP v pa ra L K N T I Q J kx σ) : Met l yX5_newData wsX5_newData ({ frames := 2, cells := 1, slots := 8, locals := 39 }) (va_Pc [.int ep, .null, .int sq, .int ke, .int va] (pW dC dI cy L (pF cy K N T I Q J) sz)) (va_Qr (fun d : List Nat × (Nat → Nat) × (Nat → Nat → Nat) × (Nat → Nat → Int32) × (Nat → Nat → Option Nat) × (Nat → Nat → Int32) => CT v d.1 d.2.1 N d.2.2.1 d.2.2.2.1 d.2.2.2.2.1 ∧ PX L K N T d.1 d.2.1 N d.2.2.1 ∧ (∀ b, b ∈ L → d.2.2.2.1 b = I b ∧ d.2.2.2.2.1 b = Q b) ∧ d.2.2.2.2.2 = J) (fun (d : List Nat × (Nat → Nat) × (Nat → Nat → Nat) × (Nat → Nat → Int32) × (Nat → Nat → Option Nat) × (Nat → Nat → Int32)) (rz : Nat) t => ((rz ∈ d.1 ∧ d.2.1 rz = 0) ∧ ∀ f, f < 8 → d.2.2.2.1 rz f = r8 ep 0 (-1) (-1) (-1) ke va 0 f) ∧ va_P (dC, dI) vwCl (va_pl d.1 (pF cy d.2.1 N d.2.2.1 d.2.2.2.1 d.2.2.2.2.1 d.2.2.2.2.2)) t.heap ∧ va_K (dC, dI) vwCl (pTy cy) t ∧ va_D (va_A (va_pl L (pF cy K N T I Q J)) sz) (va_pl d.1 (pF cy d.2.1 N d.2.2.1 d.2.2.2.1 d.2.2.2.2.1 d.2.2.2.2.2))) (va_A (va_pl L (pF cy K N T I Q J)) sz)) 1 8 (va_A (va_pl L (pF cy K N T I Q J)) sz) := by
  refine Met.ofW (cc := cX5_newData) (maxL := 5) (ret := (some (.object "TallyLogs$Entry"))) (by decide) rfl ?_
  intro p e s m args below meth c s₁ B hml hv
  obtain ⟨rfl, hsz, ⟨hP, hK, hN⟩, hD0⟩ := hv
  have hx := B.exec
  have hb := B.bytes
  have hr := B.returns
  have hts := atoms_spec (ws := wsX5_newData) B.pre
  have hown : s.vm.findClass RX5 = some m.cls := findClass_of_methodNamed B.named
  have hlocks := B.notSynchronized
  have hi0 : ∀ w ∈ wsX00, w ∈ wsX5_newData := by decide +kernel
  have hi3 : ∀ w ∈ wsX30, w ∈ wsX5_newData := by decide +kernel
  have hl := lv_entry ([.int ep, .null, .int sq, .int ke, .int va]) (n := 5) (Nat.le_of_ble_eq_true rfl)
  rw [lg_entry_eq]
  generalize (lg_sl ([.int ep, .null, .int sq, .int ke, .int va]) ++ List.replicate (5 - (lg_sl ([.int ep, .null, .int sq, .int ke, .int va])).length) Slot.unset).toArray = ls at hl ⊢
  have hl : lv_has ls 5 [(0, .int ep), (1, .null), (2, .int sq), (3, .int ke), (4, .int va)] := hl
  subst hsz
  have hD := hD0.self (sz := s.heap.size)
  generalize hAe : va_A (va_pl L (pF cy K N T I Q J)) s.heap.size = A at hD ⊢
  have hA : ∀ q : Nat, s.heap.size ≤ q → A q := fun q h => by rw [← hAe]; exact Or.inr h
  have hS : va_S A s.heap s.heap [] := va_S.rf
  have hR : RS v I Q J I Q J := RS.rf
  have hn28 := hN.1
  have hn30 := hN.2.1
  have hn37 := hN.2.2.1
  have hC := hE.ct
  refine lv_aload_nN hx hb dX5_newData_0 rfl (lv_at hl 1 rfl) ?_
  refine lv_ifnonnullN hx hb dX5_newData_1 ?_
  refine va_new (ci := 0) (fs := [.int 0, .int 0, .int 0, .int 0, .int 0, .int 0, .int 0, .int 0]) (C := RX0) (T := TX0) (N := 8) hx hb hts hi0 tyX0 tyX0_ok hown (hts (.classLink RX5 179 RX0) (by decide +kernel)) (hts (.instantiable RX0 8) (by decide +kernel)) (hts (.initialized RX0) (by decide +kernel)) hK hP hD hS hA rfl (fun j hj => by rcases (show j = 0 ∨ j = 1 ∨ j = 2 ∨ j = 3 ∨ j = 4 ∨ j = 5 ∨ j = 6 ∨ j = 7 by omega) with rfl | rfl | rfl | rfl | rfl | rfl | rfl | rfl <;> rfl) (Nat.le_of_ble_eq_true rfl) (Nat.le_of_ble_eq_true rfl) dX5_newData_4 (fun q660044 H hP hD hS => ?_)
  refine W.widen (k := 1) (n := 8) (by omega) (by omega) ?_
  have hE0 := hE
  obtain ⟨L, K, T, I660045, Q660045, ⟨⟨hP, hD, hC⟩, hXe, hIQ⟩, ⟨hLq660044, hkq660044⟩, hnq⟩ := pNew0x hC hP hD
  have hR : RS v I660045 Q660045 J I660045 Q660045 J := RS.rf
  have hE : REP v pa ra L K N T I660045 Q660045 J kx σ := hE0.mv hC (fun b hb => (hXe b hb).2.2.2) (fun b hb => (hIQ b hb).1) (fun b hb => (hIQ b hb).2) (fun _ _ => rfl)
  refine lv_dup hx hb dX5_newData_7 rfl ?_
  refine lv_iload_n hx hb dX5_newData_8 rfl (lv_at hl 0 rfl) ?_
  refine lv_iconst (v := (-1)) hx hb dX5_newData_9 (by decide) ?_
  refine lv_iconst (v := (-1)) hx hb dX5_newData_10 (by decide) ?_
  refine lv_iconst (v := (-1)) hx hb dX5_newData_11 (by decide) ?_
  refine lv_iload_n hx hb dX5_newData_12 rfl (lv_at hl 3 rfl) ?_
  refine lv_iload hx hb dX5_newData_13 (lv_at hl 4 rfl) ?_
  refine lv_iconst (v := 0) hx hb dX5_newData_15 (by decide) ?_
  have hFc := pfree hD hS hA
  refine va_callv (va_runI (As := [.int ep, .int (-1), .int (-1), .int (-1), .int ke, .int va, .int 0]) (rest := [.ref q660044]) ⟨hx, hb, hml, hown, hts⟩ (g_X0_init l dC dI cy v L K N T I660045 Q660045 J H.size q660044 ep (-1) (-1) (-1) ke va 0 hC hLq660044 hkq660044 rfl rfl) (cwI 7 hts gX5_newData_X0_init rfl rfl rfl (hts (.initialized RX0) (by decide +kernel)) (hts (.methodLink RX5 251 yX0_init) (by decide +kernel)) (hts (.instanceMethod yX0_init) (by decide +kernel)) rfl (by decide +kernel) ⟨Nat.le_of_ble_eq_true rfl, Nat.le_of_ble_eq_true rfl⟩) ⟨pw_blind, fun U hU hW => ⟨rfl, pw_pre hP hK hN hD hU hW⟩⟩ rfl rfl hl.1 rfl (lv_room (Nat.le_of_ble_eq_true rfl)) dX5_newData_16 ⟨Nat.le_of_ble_eq_true rfl, Nat.le_of_ble_eq_true rfl⟩) hS (fun q _ h => hFc q h) hFc (fun d9 t H1 locs ht hvm hw hB hz1 hk1 hS => ?_)
  obtain ⟨I660046, Q660046, J660046⟩ := d9
  obtain ⟨hC, hIo, hIf, eQ660046, eJ660046⟩ := hw
  have hIo : ∀ b, ¬ b = q660044 → I660046 b = I660045 b := hIo
  have hIf : ∀ f, f < 8 → I660046 q660044 f = r8 ep 0 (-1) (-1) (-1) ke va 0 f := hIf
  have eQ660046 : Q660046 = Q660045 := eQ660046
  have eJ660046 : J660046 = J := eJ660046
  obtain ⟨hP, hK1, hD1⟩ := hB
  rw [ht] at hP
  have hD := hD1.weaken (fun _ _ _ h => hFc _ h)
  generalize H1 = H at hP hS ⊢
  have hP : va_P (dC, dI) vwCl (va_pl L (pF cy K N T I660046 Q660046 J660046)) H := hP
  have hD : va_D A (va_pl L (pF cy K N T I660046 Q660046 J660046)) := hD
  have hR : RS v I660046 Q660046 J660046 I660046 Q660046 J660046 := RS.rf
  have hC : CT v L K N T I660046 Q660046 := hC
  have hIQ : ∀ b, b ∈ _ → I660046 b = I b ∧ Q660046 b = Q b := fun b hb => ⟨(hIo b (fun z => hnq (z ▸ hb))).trans (hIQ b hb).1, (congrFun eQ660046 b).trans (hIQ b hb).2⟩
  have hE : REP v pa ra L K N T I660046 Q660046 J660046 kx σ := hE0.mv hC (fun b hb => (hXe b hb).2.2.2) (fun b hb => (hIQ b hb).1) (fun b hb => (hIQ b hb).2) (fun _ _ => by rw [eJ660046])
  refine W.widen (k := 1) (n := 8) (by omega) (by omega) ?_
  exact W.aret (v := .ref q660044) hx hb hr (Or.inl ⟨_, rfl⟩) (Or.inr ⟨_, rfl⟩) (fun t ht hW => ⟨⟨(L, K, T, I660046, Q660046, J660046), q660044, rfl, ⟨hC, hXe, hIQ, eJ660046⟩, ⟨⟨hLq660044, hkq660044⟩, hIf⟩, by rw [ht]; exact hP, va_K.moved hW.alike hK, hD⟩, hS.F ht⟩) hS.2.2 dX5_newData_19
