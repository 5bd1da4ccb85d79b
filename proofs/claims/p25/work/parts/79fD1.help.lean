/-- partitionAt: null, or the partition -/
def PAp (pa : Nat → Nat) (σ : SG) (x : Int32) (r : Option Nat) : Prop := (r = none ∧ sp_it (σ.1 2) x = 0) ∨ ∃ P, P < 4 ∧ x = nI P ∧ ¬ σ.1 2 P = 0 ∧ r = some (pa P)
/-- replicaOf -/
def ROp (ra : Nat → Nat) (σ : SG) (x y : Int32) (r : Option Nat) : Prop := (r = none ∧ sp_ir (σ.1 2) (σ.1 3) x y = 0) ∨ ∃ P n, P < 4 ∧ n < 5 ∧ y = nI P ∧ x = nI n ∧ lvj σ P n ∧ r = some (ra (5 * P + n))
/-- producerOf -/
def POp (v : Nat → Nat) (h : Int32) (r : Option Nat) : Prop := (r = none ∧ sp_ih h = 0) ∨ ∃ j, j < 6 ∧ h - h / 8 * 8 = nI j ∧ ¬ sp_ih h = 0 ∧ r = some (v (4 + j))
theorem sp_it_no {f : Nat → Int32} {x : Int32} (h : ¬ (0 ≤ x.toInt ∧ x.toInt < 4)) : sp_it f x = 0 := if_neg (fun z => h ⟨z.1, z.2.1⟩)
theorem sp_it_n {f : Nat → Int32} {P : Nat} (hP : P < 4) (h : f P = 0) : sp_it f (nI P) = 0 := if_neg (fun z => z.2.2 (by rw [nI_clamp (by omega)]; exact h))
theorem sp_it_y {f : Nat → Int32} {x : Int32} {P : Nat} (hP : P < 4) (e : x = nI P) (h : ¬ f P = 0) : ¬ sp_it f x = 0 := by
  rw [e]
  unfold sp_it
  rw [if_pos ⟨by rw [nI_toInt (by omega)]; omega, by rw [nI_toInt (by omega)]; omega, by rw [nI_clamp (by omega)]; exact h⟩]
  decide
theorem nI_cl {x : Int32} {P : Nat} (hP : P < 2 ^ 31) (e : x = nI P) : x.toNatClampNeg = P := by rw [e]; exact nI_clamp hP
theorem sp_inl_no {x : Int32} {a b : Int64} {i j : Int} (ha : a.toInt = i) (hb : b.toInt = j) (h : ¬ (i ≤ x.toInt ∧ x.toInt ≤ j)) : sp_in x.toInt64 a b = 0 := (sp_in_0 x a b).mpr (by rw [ha, hb]; exact h)
theorem sp_inl_yes {x : Int32} {a b : Int64} {i j : Int} (ha : a.toInt = i) (hb : b.toInt = j) (h : i ≤ x.toInt ∧ x.toInt ≤ j) : ¬ sp_in x.toInt64 a b = 0 := fun z => (sp_in_0 x a b).mp z (by rw [ha, hb]; exact h)
theorem sp_ir_n0 {t r : Nat → Int32} {x y : Int32} (h : sp_it t y = 0) : sp_ir t r x y = 0 := if_pos h
theorem sp_ir_n1 {t r : Nat → Int32} {x y : Int32} (h : ∀ P n, P < 4 → n < 5 → y = nI P → x = nI n → ¬ (¬ t P = 0 ∧ bt (r P) n)) : sp_ir t r x y = 0 := by
  unfold sp_ir
  by_cases h1 : sp_it t y = 0
  · rw [if_pos h1]
  · rw [if_neg h1]
    by_cases h2 : sp_in x.toInt64 0 4 = 0
    · rw [if_pos h2]
    · rw [if_neg h2]
      obtain ⟨P, hP, e1⟩ := vp_in_of (sp_it1 h1).1 (by decide)
      obtain ⟨n, hn, e2⟩ := vp_in_of (xin_sp (n := 5) h2 (by decide)) (by decide)
      have h3 := (sp_it1 h1).2
      rw [e1, nI_clamp (by omega)] at h3
      have := h P n hP hn e1 e2
      rw [if_neg (fun z => this ⟨h3, by rw [e1, nI_clamp (by omega), e2] at z; exact z⟩)]
theorem sp_ir_y {t r : Nat → Int32} {x y : Int32} {P n : Nat} (hP : P < 4) (hn : n < 5) (e1 : y = nI P) (e2 : x = nI n) (ht : ¬ t P = 0) (hb : bt (r P) n) : ¬ sp_ir t r x y = 0 := by
  unfold sp_ir
  rw [if_neg (sp_it_y hP e1 ht), if_neg (sp_inl_yes (i := 0) (j := 4) (by decide) (by decide) (by rw [e2, nI_toInt (by omega)]; omega)), if_pos (by rw [e1, nI_clamp (by omega), e2]; exact hb)]
  decide
theorem sp_iu_cn {u : Int32} {n : Nat} (hn : n < 5) : (sp_iu u (nI n) = 0) ↔ (sp_cn u (nI n) = 0) := by
  rw [sp_cn8 (by omega)]
  unfold sp_iu
  by_cases h : (u >>> (nI n &&& 31)) &&& 1 = 1
  · rw [if_pos ⟨by rw [nI_toInt (by omega)]; omega, by rw [nI_toInt (by omega)]; omega, h⟩, if_pos h]
  · rw [if_neg (fun z => h z.2.2), if_neg h]
theorem sp_iu_bt {u : Int32} {n : Nat} (hn : n < 5) : (¬ sp_iu u (nI n) = 0) ↔ bt u n := by
  unfold sp_iu
  by_cases h : (u >>> (nI n &&& 31)) &&& 1 = 1
  · rw [if_pos ⟨by rw [nI_toInt (by omega)]; omega, by rw [nI_toInt (by omega)]; omega, h⟩]
    exact ⟨fun _ => h, fun _ => by decide⟩
  · rw [if_neg (fun z => h z.2.2)]
    exact ⟨fun z => absurd rfl z, fun z => absurd z h⟩
section XK
variable {u : Int32} {σ σ' : SG} {p j k : Nat} {E : Int}
theorem PI.pl (h : PI (σ.1 0 0) σ p) (ht : ¬ σ.1 2 p = 0) : PLd σ p := by
  obtain ⟨_, hs, hl, _⟩ := h.2 ht
  rcases hl with z | ⟨m, hm, e, h1, h2⟩
  · exact Or.inl (by rw [z]; decide)
  · exact Or.inr ⟨m, hm, e, ⟨ht, hs m hm h1⟩, h1, h2⟩
end XK
section XC
variable {v pa ra : Nat → Nat} {L : List Nat} {K N : Nat → Nat} {T : Nat → Nat → Nat} {I I' : Nat → Nat → Int32} {Q Q' : Nat → Nat → Option Nat} {J J' : Nat → Nat → Int32} {kx kx' : Nat → Prop} {σ σ' : SG} {p n k : Nat}
/-- a producer's partitions left -/
theorem REP.wleft (h : REP v pa ra L K N T I Q J kx σ) (hk : k < 6) {x : Int32} : REP v pa ra L K N T (p2 I (v (4 + k)) 5 x) Q J kx (sA σ 10 k x) := by
  have r := h.pr k hk
  refine h.wk hk (h.ct.pi (fun q => by rw [(h.ct.kp hk).2] at q; omega)) (fun a ha => p2_na _ _ ha) rfl (fun i q hi => sA_q (fun z => hi ⟨by omega, z.2⟩)) ?_
  unfold RPp
  rw [p2_ne _ _ (by omega), p2_ne _ _ (by omega), p2_ne _ _ (by omega), p2_at, p2_ne _ _ (by omega), p2_ne _ _ (by omega), sA_n (i := 8) (by decide), sA_n (i := 9) (by decide), sA_s, sA_n (i := 11) (by decide), sA_n (i := 12) (by decide)]
  exact ⟨r.1, r.2.1, r.2.2.1, rfl, r.2.2.2.2⟩
/-- a producer is free -/
theorem REP.wfree (h : REP v pa ra L K N T I Q J kx σ) (hk : k < 6) : REP v pa ra L K N T (p2 I (v (4 + k)) 2 0) Q J kx (sA σ 9 k 0) := by
  have r := h.pr k hk
  refine h.wk hk (h.ct.pi (fun q => by rw [(h.ct.kp hk).2] at q; omega)) (fun a ha => p2_na _ _ ha) rfl (fun i q hi => sA_q (fun z => hi ⟨by omega, z.2⟩)) ?_
  unfold RPp
  rw [p2_ne _ _ (by omega), p2_ne _ _ (by omega), p2_at, p2_ne _ _ (by omega), p2_ne _ _ (by omega), p2_ne _ _ (by omega), sA_n (i := 8) (by decide), sA_s, sA_n (i := 10) (by decide), sA_n (i := 11) (by decide), sA_n (i := 12) (by decide)]
  exact ⟨r.1, r.2.1, rfl, r.2.2.2.1, fun z => absurd z (by decide), fun z => absurd z (by decide)⟩
end XC
section XC
variable {v pa ra : Nat → Nat} {L : List Nat} {K N : Nat → Nat} {T : Nat → Nat → Nat} {I I' : Nat → Nat → Int32} {Q Q' : Nat → Nat → Option Nat} {J J' : Nat → Nat → Int32} {kx kx' : Nat → Prop} {σ σ' : SG} {p n k : Nat}
/-- begin -/
theorem REP.wopen (h : REP v pa ra L K N T I Q J kx σ) (hk : k < 6) (hC : CT v L K N T I' Q) (hI : I' = p2 (p2 (p2 I (v (4 + k)) 2 1) (v (4 + k)) 4 (I (v (4 + k)) 1)) (v (4 + k)) 5 0) : REP v pa ra L K N T I' Q J kx (sA (sA σ 9 k 1) 10 k 0) := by
  have r := h.pr k hk
  refine h.wk hk hC (fun a ha => by rw [hI, p2_na _ _ ha, p2_na _ _ ha, p2_na _ _ ha]) rfl (fun i q hi => by rw [sA_q (fun z => hi ⟨by omega, z.2⟩), sA_q (fun z => hi ⟨by omega, z.2⟩)]) ?_
  rw [hI]
  refine ⟨?_, ?_, ?_, ?_, fun _ => ?_, fun z => ?_⟩
  · rw [p2_ne _ _ (by omega), p2_ne _ _ (by omega), p2_ne _ _ (by omega)]; exact r.1
  · rw [p2_ne _ _ (by omega), p2_ne _ _ (by omega), p2_ne _ _ (by omega), sA_n (i := 8) (by decide), sA_n (i := 8) (by decide)]; exact r.2.1
  · rw [p2_ne _ _ (by omega), p2_ne _ _ (by omega), p2_at, sA_n (i := 9) (by decide), sA_s]
  · rw [p2_at, sA_s]
  · rw [p2_ne _ _ (by omega), p2_at, sA_n (i := 8) (by decide), sA_n (i := 8) (by decide)]; exact r.2.1
  · rw [sA_n (i := 9) (by decide), sA_s] at z; exact absurd z (by decide)
/-- finish -/
theorem REP.wend (h : REP v pa ra L K N T I Q J kx σ) (hk : k < 6) (hm : σ.1 9 k = 1) {cm : Int32} (hc : cm = 0 ∨ cm = 1) (hC : CT v L K N T I' Q) (hI : I' = p2 (p2 I (v (4 + k)) 2 2) (v (4 + k)) 3 cm) : REP v pa ra L K N T I' Q J kx (sA (sA (sA σ 9 k 2) 11 k (σ.1 8 k)) 12 k (if cm = 0 then 2 else 1)) := by
  have r := h.pr k hk
  refine h.wk hk hC (fun a ha => by rw [hI, p2_na _ _ ha, p2_na _ _ ha]) rfl (fun i q hi => by rw [sA_q (fun z => hi ⟨by omega, z.2⟩), sA_q (fun z => hi ⟨by omega, z.2⟩), sA_q (fun z => hi ⟨by omega, z.2⟩)]) ?_
  rw [hI]
  have t8 : (sA (sA (sA σ 9 k 2) 11 k (σ.1 8 k)) 12 k (if cm = 0 then 2 else 1)).1 8 k = σ.1 8 k := by rw [sA_n (by decide), sA_n (by decide), sA_n (by decide)]
  have t9 : (sA (sA (sA σ 9 k 2) 11 k (σ.1 8 k)) 12 k (if cm = 0 then 2 else 1)).1 9 k = 2 := by rw [sA_n (by decide), sA_n (by decide), sA_s]
  have t10 : (sA (sA (sA σ 9 k 2) 11 k (σ.1 8 k)) 12 k (if cm = 0 then 2 else 1)).1 10 k = σ.1 10 k := by rw [sA_n (by decide), sA_n (by decide), sA_n (by decide)]
  have t11 : (sA (sA (sA σ 9 k 2) 11 k (σ.1 8 k)) 12 k (if cm = 0 then 2 else 1)).1 11 k = σ.1 8 k := by rw [sA_n (by decide), sA_s]
  unfold RPp
  rw [t8, t9, t10, t11, sA_s]
  refine ⟨?_, ?_, ?_, ?_, fun z => absurd z (by decide), fun _ => ⟨?_, ?_⟩⟩
  · rw [p2_ne _ _ (by omega), p2_ne _ _ (by omega)]; exact r.1
  · rw [p2_ne _ _ (by omega), p2_ne _ _ (by omega)]; exact r.2.1
  · rw [p2_ne _ _ (by omega), p2_at]
  · rw [p2_ne _ _ (by omega), p2_ne _ _ (by omega)]; exact r.2.2.2.1
  · rw [p2_ne _ _ (by omega), p2_ne _ _ (by omega)]; exact r.2.2.2.2.1 hm
  · rw [p2_at]
    rcases hc with rfl | rfl
    · exact Or.inl ⟨rfl, by decide⟩
    · exact Or.inr ⟨rfl, by decide⟩
/-- register: nothing was open -/
theorem REP.wreg0 (h : REP v pa ra L K N T I Q J kx σ) (hk : k < 6) (hm : ¬ σ.1 9 k = 1) {x : Int32} : REP v pa ra L K N T (p2 I (v (4 + k)) 1 x) Q J kx (sA σ 8 k x) := by
  have r := h.pr k hk
  refine h.wk hk (h.ct.pi (fun q => by rw [(h.ct.kp hk).2] at q; omega)) (fun a ha => p2_na _ _ ha) rfl (fun i q hi => sA_q (fun z => hi ⟨by omega, z.2⟩)) ?_
  unfold RPp
  rw [p2_ne _ _ (by omega), p2_at, p2_ne _ _ (by omega), p2_ne _ _ (by omega), p2_ne _ _ (by omega), p2_ne _ _ (by omega), sA_s, sA_n (i := 9) (by decide), sA_n (i := 10) (by decide), sA_n (i := 11) (by decide), sA_n (i := 12) (by decide)]
  exact ⟨r.1, rfl, r.2.2.1, r.2.2.2.1, fun z => absurd z hm, r.2.2.2.2.2⟩
/-- register: it ends by abort -/
theorem REP.wreg1 (h : REP v pa ra L K N T I Q J kx σ) (hk : k < 6) (hm : σ.1 9 k = 1) {x : Int32} (hC : CT v L K N T I' Q) (hI : I' = p2 (p2 (p2 I (v (4 + k)) 1 x) (v (4 + k)) 2 2) (v (4 + k)) 3 0) : REP v pa ra L K N T I' Q J kx (sA (sA (sA (sA σ 9 k 2) 11 k (σ.1 8 k)) 12 k 2) 8 k x) := by
  have r := h.pr k hk
  refine h.wk hk hC (fun a ha => by rw [hI, p2_na _ _ ha, p2_na _ _ ha, p2_na _ _ ha]) rfl (fun i q hi => by rw [sA_q (fun z => hi ⟨by omega, z.2⟩), sA_q (fun z => hi ⟨by omega, z.2⟩), sA_q (fun z => hi ⟨by omega, z.2⟩), sA_q (fun z => hi ⟨by omega, z.2⟩)]) ?_
  rw [hI]
  have t9 : (sA (sA (sA (sA σ 9 k 2) 11 k (σ.1 8 k)) 12 k 2) 8 k x).1 9 k = 2 := by rw [sA_n (by decide), sA_n (by decide), sA_n (by decide), sA_s]
  have t10 : (sA (sA (sA (sA σ 9 k 2) 11 k (σ.1 8 k)) 12 k 2) 8 k x).1 10 k = σ.1 10 k := by rw [sA_n (by decide), sA_n (by decide), sA_n (by decide), sA_n (by decide)]
  have t11 : (sA (sA (sA (sA σ 9 k 2) 11 k (σ.1 8 k)) 12 k 2) 8 k x).1 11 k = σ.1 8 k := by rw [sA_n (by decide), sA_n (by decide), sA_s]
  have t12 : (sA (sA (sA (sA σ 9 k 2) 11 k (σ.1 8 k)) 12 k 2) 8 k x).1 12 k = 2 := by rw [sA_n (by decide), sA_s]
  unfold RPp
  rw [t9, t10, t11, t12, sA_s]
  refine ⟨?_, ?_, ?_, ?_, fun z => absurd z (by decide), fun _ => ⟨?_, Or.inl ⟨?_, rfl⟩⟩⟩
  · rw [p2_ne _ _ (by omega), p2_ne _ _ (by omega), p2_ne _ _ (by omega)]; exact r.1
  · rw [p2_ne _ _ (by omega), p2_ne _ _ (by omega), p2_at]
  · rw [p2_ne _ _ (by omega), p2_at]
  · rw [p2_ne _ _ (by omega), p2_ne _ _ (by omega), p2_ne _ _ (by omega)]; exact r.2.2.2.1
  · rw [p2_ne _ _ (by omega), p2_ne _ _ (by omega), p2_ne _ _ (by omega)]; exact r.2.2.2.2.1 hm
  · rw [p2_at]
end XC
set_option maxHeartbeats 4000000 in
set_option maxRecDepth 100000 in
/-- partitionAt, exactly -/
theorem g_X5_partitionAt (l : Launch) (dC : Nat → ClassId) (dI : Nat → Nat → Nat) (cy : Nat → ClassId) (v : Nat → Nat) (L : List Nat) (K N : Nat → Nat) (T : Nat → Nat → Nat) (I : Nat → Nat → Int32) (Q : Nat → Nat → Option Nat) (J : Nat → Nat → Int32) (pa ra : Nat → Nat) (kx : Nat → Prop) (σ : SG) (xp : Int32) (hE : REP v pa ra L K N T I Q J kx σ) : Met l yX5_partitionAt wsX5_partitionAt ({ frames := 0, cells := 0, slots := 0, locals := 0 }) (va_Pc [.ref (v 0), .int xp] (pB dC dI cy L (pF cy K N T I Q J))) (va_Sq (fun r => PAp pa σ xp r)) 0 0 (fun _ => False) := by
  refine Met.ofW (cc := cX5_partitionAt) (maxL := 2) (ret := (some (.object "TallyLogs$Partition"))) (by decide) rfl ?_
  intro p e s m args below meth c s₁ B hml hv
  obtain ⟨rfl, hP, hK, hN⟩ := hv
  have hx := B.exec
  have hb := B.bytes
  have hr := B.returns
  have hts := atoms_spec (ws := wsX5_partitionAt) B.pre
  have hown : s.vm.findClass RX5 = some m.cls := findClass_of_methodNamed B.named
  have hlocks := B.notSynchronized
  have hi5 : ∀ w ∈ wsX50, w ∈ wsX5_partitionAt := by decide +kernel
  have hl := lv_entry ([.ref (v 0), .int xp]) (n := 2) (Nat.le_of_ble_eq_true rfl)
  rw [lg_entry_eq]
  generalize (lg_sl ([.ref (v 0), .int xp]) ++ List.replicate (2 - (lg_sl ([.ref (v 0), .int xp])).length) Slot.unset).toArray = ls at hl ⊢
  have hl : lv_has ls 2 [(0, .ref (v 0)), (1, .int xp)] := hl
  have hn28 := hN.1
  have hn30 := hN.2.1
  have hn37 := hN.2.2.1
  have hC := hE.ct
  refine lv_iload_n hx hb dX5_partitionAt_0 rfl (lv_at hl 1 rfl) ?_
  refine lv_if_lt (tgt := 9) hx hb dX5_partitionAt_1 (by decide) (fun c600001 => ?_) (fun c600001 => ?_)
  · have kc600001 : xp.toInt < 0 := by have h9 := c600001; rw [xk_lt, xk_0] at h9; exact h9
    refine lv_null hx hb dX5_partitionAt_9 ?_
    refine lv_goto (tgt := 19) hx hb dX5_partitionAt_10 (by decide) ?_
    exact W.aret (v := .null) hx hb hr (Or.inl ⟨_, rfl⟩) (Or.inl rfl) (fun t ht hW => ⟨none, rfl, Or.inl ⟨rfl, sp_it_no (by omega)⟩, ht⟩) (fun _ h => by cases h) dX5_partitionAt_19
  · have kc600001 : ¬ (xp.toInt < 0) := by have h9 := c600001; rw [xk_lt, xk_0] at h9; exact h9
    refine lv_iload_n hx hb dX5_partitionAt_4 rfl (lv_at hl 1 rfl) ?_
    refine lv_iconst (v := 4) hx hb dX5_partitionAt_5 (by decide) ?_
    refine lv_icmp_lt (tgt := 13) hx hb dX5_partitionAt_6 (by decide) (fun c600002 => ?_) (fun c600002 => ?_)
    · have kc600002 : xp.toInt < 4 := by have h9 := c600002; rw [xk_lt, xk_4] at h9; exact h9
      refine lv_aload_n hx hb dX5_partitionAt_13 rfl (lv_at hl 0 rfl) ?_
      obtain ⟨j600003, hj600003⟩ := pG_5 (cy := cy) (N := N) (T := T) (I := I) (Q := Q) (J := J) (hC.at 0 (by decide)) (hC.k 0 (by decide) rfl)
      refine va_get (D := (dC, dI)) (ci := 5) (v := .ref (T (v 0) 0)) (C := RX5) (T := TX5) (N := 6) hx hb hts hi5 hown hK hP j600003 hj600003 rfl 0 (by decide) (hts (.fieldLink RX5 11 "TallyLogs" "partitions" "[LTallyLogs$Partition;") (by decide +kernel)) (fun _ h9 => h9) rfl dX5_partitionAt_14 ?_
      refine W.eq (g2 := F0 m 17 ls [.ref (v 1)]) (by rw [hC.1.2.2.1.1]) ?_
      refine lv_iload_n hx hb dX5_partitionAt_17 rfl (lv_at hl 1 rfl) ?_
      have hin600005 : vp_in xp 4 := xin_of (by have kc600001 := c600001; have kc600002 := c600002; simp only [xk_lt, xk_le, xk_0, xk_1, xk_2, xk_3, xk_4, xk_5, xk_6, xk_7, xk_8, xk_50] at kc600001 kc600002; omega) (by have kc600001 := c600001; have kc600002 := c600002; simp only [xk_lt, xk_le, xk_0, xk_1, xk_2, xk_3, xk_4, xk_5, xk_6, xk_7, xk_8, xk_50] at kc600001 kc600002; omega)
      obtain ⟨j600006, hj600006, ej600006⟩ := vp_in_of hin600005 (by decide)
      by_cases hth600006 : σ.1 2 j600006 = 0
      · have hq600006 : Q (v 1) xp.toNatClampNeg = none := by rw [nI_cl (by omega) ej600006]; exact (hE.pt j600006 hj600006).1 hth600006
        obtain ⟨j600007, hj600007⟩ := pG_10 (cy := cy) (N := N) (T := T) (I := I) (Q := Q) (J := J) (hC.at 1 (by decide)) (hC.k 1 (by decide) rfl)
        refine va_aldq hx hb hK hP j600007 3 hj600007 rfl hin600005 dX5_partitionAt_18 ?_
        refine W.eq (g2 := F0 m 19 ls [.null]) (by rw [hq600006]; rfl) ?_
        exact W.aret (v := .null) hx hb hr (Or.inl ⟨_, rfl⟩) (Or.inl rfl) (fun t ht hW => ⟨none, rfl, Or.inl ⟨rfl, by rw [ej600006]; exact sp_it_n hj600006 hth600006⟩, ht⟩) (fun _ h => by cases h) dX5_partitionAt_19
      · have hq600006 : Q (v 1) xp.toNatClampNeg = some (pa j600006) := by rw [nI_cl (by omega) ej600006]; exact hE.pq hj600006 hth600006
        obtain ⟨j600008, hj600008⟩ := pG_10 (cy := cy) (N := N) (T := T) (I := I) (Q := Q) (J := J) (hC.at 1 (by decide)) (hC.k 1 (by decide) rfl)
        refine va_aldq hx hb hK hP j600008 3 hj600008 rfl hin600005 dX5_partitionAt_18 ?_
        refine W.eq (g2 := F0 m 19 ls [.ref (pa j600006)]) (by rw [hq600006]; rfl) ?_
        exact W.aret (v := .ref (pa j600006)) hx hb hr (Or.inl ⟨_, rfl⟩) (Or.inr ⟨_, rfl⟩) (fun t ht hW => ⟨some (pa j600006), rfl, Or.inr ⟨j600006, hj600006, ej600006, hth600006, rfl⟩, ht⟩) (fun _ h => by cases h) dX5_partitionAt_19
    · have kc600002 : ¬ (xp.toInt < 4) := by have h9 := c600002; rw [xk_lt, xk_4] at h9; exact h9
      refine lv_null hx hb dX5_partitionAt_9 ?_
      refine lv_goto (tgt := 19) hx hb dX5_partitionAt_10 (by decide) ?_
      exact W.aret (v := .null) hx hb hr (Or.inl ⟨_, rfl⟩) (Or.inl rfl) (fun t ht hW => ⟨none, rfl, Or.inl ⟨rfl, sp_it_no (by omega)⟩, ht⟩) (fun _ h => by cases h) dX5_partitionAt_19
set_option maxHeartbeats 4000000 in
set_option maxRecDepth 100000 in
/-- replicaOf, exactly -/
theorem g_X5_replicaOf (l : Launch) (dC : Nat → ClassId) (dI : Nat → Nat → Nat) (cy : Nat → ClassId) (v : Nat → Nat) (L : List Nat) (K N : Nat → Nat) (T : Nat → Nat → Nat) (I : Nat → Nat → Int32) (Q : Nat → Nat → Option Nat) (J : Nat → Nat → Int32) (pa ra : Nat → Nat) (kx : Nat → Prop) (σ : SG) (xn xp : Int32) (hE : REP v pa ra L K N T I Q J kx σ) : Met l yX5_replicaOf wsX5_replicaOf ({ frames := 1, cells := 0, slots := 0, locals := 21 }) (va_Pc [.ref (v 0), .int xn, .int xp] (pB dC dI cy L (pF cy K N T I Q J))) (va_Sq (fun r => ROp ra σ xn xp r)) 0 0 (fun _ => False) := by
  refine Met.ofW (cc := cX5_replicaOf) (maxL := 4) (ret := (some (.object "TallyLogs$Replica"))) (by decide) rfl ?_
  intro p e s m args below meth c s₁ B hml hv
  obtain ⟨rfl, hP, hK, hN⟩ := hv
  have hx := B.exec
  have hb := B.bytes
  have hr := B.returns
  have hts := atoms_spec (ws := wsX5_replicaOf) B.pre
  have hown : s.vm.findClass RX5 = some m.cls := findClass_of_methodNamed B.named
  have hlocks := B.notSynchronized
  have hi5 : ∀ w ∈ wsX50, w ∈ wsX5_replicaOf := by decide +kernel
  have hl := lv_entry ([.ref (v 0), .int xn, .int xp]) (n := 4) (Nat.le_of_ble_eq_true rfl)
  rw [lg_entry_eq]
  generalize (lg_sl ([.ref (v 0), .int xn, .int xp]) ++ List.replicate (4 - (lg_sl ([.ref (v 0), .int xn, .int xp])).length) Slot.unset).toArray = ls at hl ⊢
  have hl : lv_has ls 4 [(0, .ref (v 0)), (1, .int xn), (2, .int xp)] := hl
  have hn28 := hN.1
  have hn30 := hN.2.1
  have hn37 := hN.2.2.1
  have hC := hE.ct
  refine lv_aload_n hx hb dX5_replicaOf_0 rfl (lv_at hl 0 rfl) ?_
  refine lv_iload_n hx hb dX5_replicaOf_1 rfl (lv_at hl 2 rfl) ?_
  obtain ⟨j600010, hj600010⟩ := pG_5 (cy := cy) (N := N) (T := T) (I := I) (Q := Q) (J := J) (hC.at 0 (by decide)) (hC.k 0 (by decide) rfl)
  refine va_csq (W.runV (As := [.int xp]) (rest := []) ⟨hx, hb, hml, hown, hts⟩ (g_X5_partitionAt l dC dI cy v L K N T I Q J pa ra kx σ xp hE) (cwV 1 hts gX5_replicaOf_X5_partitionAt rfl rfl rfl (by decide +kernel) ⟨Nat.le_of_ble_eq_true rfl, Nat.le_of_ble_eq_true rfl⟩) ⟨pb_blind, va_recv hK hP (ci := 5) (q0 := j600010) rfl hj600010, fun U hU hW => ⟨rfl, pb_pre hP hK hN hU hW⟩⟩ rfl rfl hl.1 rfl (lv_room (Nat.le_of_ble_eq_true rfl)) dX5_replicaOf_2 ⟨Nat.le_of_ble_eq_true rfl, Nat.le_of_ble_eq_true rfl⟩) (fun r600009 hr600009 => ?_)
  rcases hr600009 with ⟨rfl, hpn600011⟩ | ⟨P600011, hP600011, eP600011, htP600011, rfl⟩
  · refine W.eq (g2 := F0 m 5 ls [.null]) rfl ?_
    refine lv_astore_nN (lv' := [(3, .null), (0, .ref (v 0)), (1, .int xn), (2, .int xp)]) hx hb dX5_replicaOf_5 rfl hl (by decide) rfl (fun ls hl => ?_)
    refine lv_aload_nN hx hb dX5_replicaOf_6 rfl (lv_at hl 0 rfl) ?_
    refine lv_ifnonnullN hx hb dX5_replicaOf_7 ?_
    refine lv_null hx hb dX5_replicaOf_10 ?_
    refine lv_goto (tgt := 19) hx hb dX5_replicaOf_11 (by decide) ?_
    exact W.aret (v := .null) hx hb hr (Or.inl ⟨_, rfl⟩) (Or.inl rfl) (fun t ht hW => ⟨none, rfl, Or.inl ⟨rfl, sp_ir_n0 hpn600011⟩, ht⟩) (fun _ h => by cases h) dX5_replicaOf_19
  · refine W.eq (g2 := F0 m 5 ls [.ref (pa P600011)]) rfl ?_
    have hit600011 := sp_it_y (f := σ.1 2) hP600011 eP600011 htP600011
    have cP600011 := nI_cl (by omega) eP600011
    have htO600011 := htP600011
    refine lv_astore_n (lv' := [(3, .ref (pa P600011)), (0, .ref (v 0)), (1, .int xn), (2, .int xp)]) hx hb dX5_replicaOf_5 rfl hl (by decide) rfl (fun ls hl => ?_)
    refine lv_aload_n hx hb dX5_replicaOf_6 rfl (lv_at hl 0 rfl) ?_
    refine lv_ifnonnull (tgt := 14) hx hb dX5_replicaOf_7 (by decide) ?_
    refine lv_aload_n hx hb dX5_replicaOf_14 rfl (lv_at hl 0 rfl) ?_
    refine lv_iload_n hx hb dX5_replicaOf_15 rfl (lv_at hl 2 rfl) ?_
    obtain ⟨j600013, hj600013⟩ := pG_2 (cy := cy) (N := N) (T := T) (I := I) (Q := Q) (J := J) (hE.pL hP600011 htP600011).1 (hE.pL hP600011 htP600011).2
    refine va_csq (W.runV (As := [.int xn]) (rest := []) ⟨hx, hb, hml, hown, hts⟩ (g_X2_replicaAt l dC dI cy v L K N T I Q J pa ra kx σ P600011 xn hE hP600011 htP600011) (cwV 1 hts gX5_replicaOf_X2_replicaAt rfl rfl rfl (by decide +kernel) ⟨Nat.le_of_ble_eq_true rfl, Nat.le_of_ble_eq_true rfl⟩) ⟨pb_blind, va_recv hK hP (ci := 2) (q0 := j600013) rfl hj600013, fun U hU hW => ⟨rfl, pb_pre hP hK hN hU hW⟩⟩ rfl rfl hl.1 rfl (lv_room (Nat.le_of_ble_eq_true rfl)) dX5_replicaOf_16 ⟨Nat.le_of_ble_eq_true rfl, Nat.le_of_ble_eq_true rfl⟩) (fun r600012 hr600012 => ?_)
    rcases hr600012 with ⟨rfl, hno600014⟩ | ⟨n600014, hn600014, en600014, hl600014, rfl⟩
    · refine W.eq (g2 := F0 m 19 ls [.null]) rfl ?_
      exact W.aret (v := .null) hx hb hr (Or.inl ⟨_, rfl⟩) (Or.inl rfl) (fun t ht hW => ⟨none, rfl, Or.inl ⟨rfl, sp_ir_n1 (fun P n hP hn e1 e2 z => hno600014 n hn e2 (by have e3 : P = P600011 := (by have e4 := congrArg Int32.toInt (e1.symm.trans eP600011); rw [nI_toInt (by omega), nI_toInt (by omega)] at e4; omega); rw [← e3]; exact z))⟩, ht⟩) (fun _ h => by cases h) dX5_replicaOf_19
    · refine W.eq (g2 := F0 m 19 ls [.ref (ra (5 * P600011 + n600014))]) rfl ?_
      exact W.aret (v := .ref (ra (5 * P600011 + n600014))) hx hb hr (Or.inl ⟨_, rfl⟩) (Or.inr ⟨_, rfl⟩) (fun t ht hW => ⟨some (ra (5 * P600011 + n600014)), rfl, Or.inr ⟨P600011, n600014, hP600011, hn600014, eP600011, en600014, hl600014, rfl⟩, ht⟩) (fun _ h => by cases h) dX5_replicaOf_19
theorem xrem8z (x : Int32) : (x - x / 8 * 8).toInt = x.toInt.tmod 8 := by
  have h1 := Int.mul_tdiv_add_tmod x.toInt 8
  have h2 := Int.tmod_lt_of_pos x.toInt (b := 8) (by decide)
  have h3 := Int.lt_tmod_of_pos x.toInt (b := 8) (by decide)
  have h4 := xr_lo x
  have h5 := xr_hi x
  have e8 : (8 : Int32).toInt = 8 := by decide
  have hs : 0 ≤ x.toInt → 0 ≤ x.toInt.tmod 8 := fun h => Int.tmod_nonneg 8 h
  have hn : x.toInt ≤ 0 → x.toInt.tmod 8 ≤ 0 := fun h => by
    have := Int.tmod_nonneg (a := -x.toInt) 8 (by omega)
    rw [Int.neg_tmod] at this
    omega
  rw [Int32.toInt_sub, Int32.toInt_mul, Int32.toInt_div_of_ne_right _ _ (by decide), e8]
  generalize x.toInt.tdiv 8 = q at h1 ⊢
  generalize x.toInt.tmod 8 = r at h1 h2 h3 hs hn ⊢
  rw [xb_of (n := q * 8) (by omega) (by omega), xb_of (by omega) (by omega)]
  omega
/-- the sign of x ^ 8 is that of x -/
theorem sp_ih_n {h : Int32} (h0 : 0 ≤ h.toInt) (hn : ¬ (0 ≤ (h - h / 8 * 8).toInt ∧ (h - h / 8 * 8).toInt < 6)) : sp_ih h = 0 := by
  unfold sp_ih
  by_cases q : h < 0
  · rw [if_pos q]
  · rw [if_neg q, if_pos]
    rw [xk_le, xk_6]
    have h1 := xrem8z h
    rw [Int.tmod_eq_emod_of_nonneg h0] at h1
    omega
theorem sp_ih_y {h : Int32} (h0 : 0 ≤ h.toInt) {j : Nat} (hj : j < 6) (e : h - h / 8 * 8 = nI j) : ¬ sp_ih h = 0 := by
  unfold sp_ih
  rw [if_neg (by rw [xk_lt, xk_0]; omega), e, if_neg (by rw [xk_le, xk_6, nI_toInt (by omega)]; omega)]
  decide
set_option maxHeartbeats 4000000 in
set_option maxRecDepth 100000 in
/-- producerOf, exactly -/
theorem g_X5_producerOf (l : Launch) (dC : Nat → ClassId) (dI : Nat → Nat → Nat) (cy : Nat → ClassId) (v : Nat → Nat) (L : List Nat) (K N : Nat → Nat) (T : Nat → Nat → Nat) (I : Nat → Nat → Int32) (Q : Nat → Nat → Option Nat) (J : Nat → Nat → Int32) (hd : Int32) (hC : CT v L K N T I Q) : Met l yX5_producerOf wsX5_producerOf ({ frames := 1, cells := 0, slots := 0, locals := 21 }) (va_Pc [.ref (v 0), .int hd] (pB dC dI cy L (pF cy K N T I Q J))) (va_Sq (fun r => POp v hd r)) 0 0 (fun _ => False) := by
  refine Met.ofW (cc := cX5_producerOf) (maxL := 2) (ret := (some (.object "TallyLogs$Producer"))) (by decide) rfl ?_
  intro p e s m args below meth c s₁ B hml hv
  obtain ⟨rfl, hP, hK, hN⟩ := hv
  have hx := B.exec
  have hb := B.bytes
  have hr := B.returns
  have hts := atoms_spec (ws := wsX5_producerOf) B.pre
  have hown : s.vm.findClass RX5 = some m.cls := findClass_of_methodNamed B.named
  have hlocks := B.notSynchronized
  have hi5 : ∀ w ∈ wsX50, w ∈ wsX5_producerOf := by decide +kernel
  have hl := lv_entry ([.ref (v 0), .int hd]) (n := 2) (Nat.le_of_ble_eq_true rfl)
  rw [lg_entry_eq]
  generalize (lg_sl ([.ref (v 0), .int hd]) ++ List.replicate (2 - (lg_sl ([.ref (v 0), .int hd])).length) Slot.unset).toArray = ls at hl ⊢
  have hl : lv_has ls 2 [(0, .ref (v 0)), (1, .int hd)] := hl
  have hn28 := hN.1
  have hn30 := hN.2.1
  have hn37 := hN.2.2.1
  refine lv_iload_n hx hb dX5_producerOf_0 rfl (lv_at hl 1 rfl) ?_
  refine lv_if_ge (tgt := 8) hx hb dX5_producerOf_1 (by decide) (fun c600015 => ?_) (fun c600015 => ?_)
  · have kc600015 : 0 ≤ hd.toInt := by have h9 := c600015; rw [xk_le, xk_0] at h9; exact h9
    refine lv_aload_n hx hb dX5_producerOf_8 rfl (lv_at hl 0 rfl) ?_
    refine lv_iload_n hx hb dX5_producerOf_9 rfl (lv_at hl 1 rfl) ?_
    refine lv_bipush (v := 8) hx hb dX5_producerOf_10 (by decide) ?_
    refine lv_irem hx hb dX5_producerOf_12 (by decide) ?_
    refine lv_topi (fun v600016 ev600016 => ?_)
    obtain ⟨j600018, hj600018⟩ := pG_5 (cy := cy) (N := N) (T := T) (I := I) (Q := Q) (J := J) (hC.at 0 (by decide)) (hC.k 0 (by decide) rfl)
    refine va_csq (W.runV (As := [.int v600016]) (rest := []) ⟨hx, hb, hml, hown, hts⟩ (c_X5_producerAt l dC dI cy v L K N T I Q J  v600016 hC) (cwV 1 hts gX5_producerOf_X5_producerAt rfl rfl rfl (by decide +kernel) ⟨Nat.le_of_ble_eq_true rfl, Nat.le_of_ble_eq_true rfl⟩) ⟨pb_blind, va_recv hK hP (ci := 5) (q0 := j600018) rfl hj600018, fun U hU hW => ⟨rfl, pb_pre hP hK hN hU hW⟩⟩ rfl rfl hl.1 rfl (lv_room (Nat.le_of_ble_eq_true rfl)) dX5_producerOf_13 ⟨Nat.le_of_ble_eq_true rfl, Nat.le_of_ble_eq_true rfl⟩) (fun r600017 hr600017 => ?_)
    rcases hr600017 with ⟨hn600019, rfl⟩ | ⟨j600019, hj600019, ej600019, rfl⟩
    · refine W.eq (g2 := F0 m 16 ls [.null]) rfl ?_
      exact W.aret (v := .null) hx hb hr (Or.inl ⟨_, rfl⟩) (Or.inl rfl) (fun t ht hW => ⟨none, rfl, Or.inl ⟨rfl, sp_ih_n (by omega) (by rw [← ev600016]; exact hn600019)⟩, ht⟩) (fun _ h => by cases h) dX5_producerOf_16
    · refine W.eq (g2 := F0 m 16 ls [.ref (v (4 + j600019))]) rfl ?_
      have cj600019 := nI_cl (by omega) ej600019
      exact W.aret (v := .ref (v (4 + j600019))) hx hb hr (Or.inl ⟨_, rfl⟩) (Or.inr ⟨_, rfl⟩) (fun t ht hW => ⟨some (v (4 + j600019)), rfl, Or.inr ⟨j600019, hj600019, ev600016.symm.trans ej600019, sp_ih_y (by omega) hj600019 (ev600016.symm.trans ej600019), rfl⟩, ht⟩) (fun _ h => by cases h) dX5_producerOf_16
  · have kc600015 : ¬ (0 ≤ hd.toInt) := by have h9 := c600015; rw [xk_le, xk_0] at h9; exact h9
    refine lv_null hx hb dX5_producerOf_4 ?_
    refine lv_goto (tgt := 16) hx hb dX5_producerOf_5 (by decide) ?_
    exact W.aret (v := .null) hx hb hr (Or.inl ⟨_, rfl⟩) (Or.inl rfl) (fun t ht hW => ⟨none, rfl, Or.inl ⟨rfl, by unfold sp_ih; rw [if_pos (by rw [xk_lt, xk_0]; omega)]⟩, ht⟩) (fun _ h => by cases h) dX5_producerOf_16
