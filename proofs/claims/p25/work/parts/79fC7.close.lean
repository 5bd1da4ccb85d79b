/-! bits: what a word of five holds -/
theorem and1d (x y : Int32) : (x &&& y) &&& 1 = (x &&& 1) &&& (y &&& 1) := by rw [Int32.and_assoc, Int32.and_assoc, ← Int32.and_assoc 1 y 1, Int32.and_comm 1 y, Int32.and_assoc y 1 1, Int32.and_self]
theorem bit01 (x : Int32) : x &&& 1 = 0 ∨ x &&& 1 = 1 := by
  by_cases h : x &&& 1 = 0
  · exact Or.inl h
  · exact Or.inr (xbit x h)
theorem bit_n1 {x : Int32} (h : ¬ x &&& 1 = 1) : x &&& 1 = 0 := by
  rcases bit01 x with q | q
  · exact q
  · exact absurd q h
theorem or1d (x y : Int32) : (x ||| y) &&& 1 = (x &&& 1) ||| (y &&& 1) := by
  apply Int32.toBitVec_inj.mp
  simp only [Int32.toBitVec_and, Int32.toBitVec_or]
  exact BitVec.and_or_distrib_right
theorem bt_and {a b : Int32} {n : Nat} : bt (a &&& b) n ↔ bt a n ∧ bt b n := by
  unfold bt
  rw [xband, and1d]
  rcases bit01 (a >>> (nI n &&& 31)) with h1 | h1 <;> rcases bit01 (b >>> (nI n &&& 31)) with h2 | h2 <;> rw [h1, h2] <;> decide
theorem bt_or {a b : Int32} {n : Nat} : bt (a ||| b) n ↔ bt a n ∨ bt b n := by
  unfold bt
  rw [xbor, or1d]
  rcases bit01 (a >>> (nI n &&& 31)) with h1 | h1 <;> rcases bit01 (b >>> (nI n &&& 31)) with h2 | h2 <;> rw [h1, h2] <;> decide
theorem bt_one {n k : Nat} (hn : n < 5) (hk : k < 5) : bt (1 <<< (nI k &&& 31)) n ↔ n = k := by
  unfold bt
  rw [xor5 n hn k hk]
  by_cases h : n = k
  · rw [if_pos h]; exact ⟨fun _ => h, fun _ => rfl⟩
  · rw [if_neg h]; exact ⟨fun q => absurd q (by decide), fun q => absurd q h⟩
theorem xclr6 : ∀ k, k < 5 → (((1 <<< (nI k &&& 31)) ^^^ (-1)) >>> (nI k &&& 31)) &&& 1 = (0 : Int32) := by decide +kernel
theorem bt_nclr {n k : Nat} (hn : n < 5) (hk : k < 5) : bt ((1 <<< (nI k &&& 31)) ^^^ (-1)) n ↔ ¬ n = k := by
  by_cases h : n = k
  · subst h
    unfold bt
    rw [xclr6 n hn]
    exact ⟨fun q => absurd q (by decide), fun q => absurd rfl q⟩
  · exact ⟨fun _ => h, fun _ => xclr5 n hn k hk h⟩
theorem bt_clr {s : Int32} {n k : Nat} (hn : n < 5) (hk : k < 5) : bt (s &&& ((1 <<< (nI k &&& 31)) ^^^ (-1))) n ↔ bt s n ∧ ¬ n = k := by rw [bt_and, bt_nclr hn hk]
theorem bt_set {s : Int32} {n k : Nat} (hn : n < 5) (hk : k < 5) : bt (s ||| (1 <<< (nI k &&& 31))) n ↔ bt s n ∨ n = k := by rw [bt_or, bt_one hn hk]
/-- below 32 -/
def B5 (x : Int32) : Prop := ∃ u : Nat, u < 32 ∧ x = nI u
theorem bt_z5 : ∀ u, u < 32 → (∀ n, n < 5 → ¬ bt (nI u) n) → nI u = 0 := by decide +kernel
theorem B5.z {x : Int32} (h : B5 x) (hz : ∀ n, n < 5 → ¬ bt x n) : x = 0 := by
  obtain ⟨u, hu, rfl⟩ := h
  exact bt_z5 u hu hz
theorem bt_0 : ∀ n, n < 5 → ¬ bt (0 : Int32) n := by decide +kernel
theorem B5.e5 : ∀ u, u < 32 → ¬ nI u = 0 → ∃ n, n < 5 ∧ bt (nI u) n := by decide +kernel
theorem B5.e {x : Int32} (h : B5 x) (hz : ¬ x = 0) : ∃ n, n < 5 ∧ bt x n := by
  obtain ⟨u, hu, rfl⟩ := h
  exact B5.e5 u hu hz
theorem bt_isr {s : Int32} {n : Nat} : (¬ (s >>> (nI n &&& 31)) &&& 1 = 0) ↔ bt s n := by
  unfold bt
  rcases bit01 (s >>> (nI n &&& 31)) with h1 | h1 <;> rw [h1] <;> decide
/-- what raiseHw needs of a value -/
def RHp (kx : Nat → Prop) (σ : SG) (P : Nat) : Prop := PLd σ P ∧ (∀ m, m < 5 → bt (σ.1 7 P) m → lvj σ P m) ∧ (¬ σ.1 4 P < 0 → ∀ m, m < 5 → bt (σ.1 7 P) m → ¬ σ.1 4 P = nI m → ¬ kx (5 * P + m)) ∧ ∀ m, m < 5 → LN (σ.2.1 (5 * P + m))
theorem oLu_eq {σ : SG} {j : Nat} {kp : Int32} (hk : 0 ≤ kp.toInt) (h0 : 0 ≤ (σ.2.1 j 4).toInt) (h1 : (σ.2.1 j 4).toInt ≤ (σ.2.1 j 2).toInt) : oLu σ j kp = oC1 σ j kp := by
  have e : σ.2.1 j 4 + imn kp (σ.2.1 j 2 - σ.2.1 j 4) = (if (σ.2.1 j 4).toInt64 + kp.toInt64 < (σ.2.1 j 2).toInt64 then (σ.2.1 j 4).toInt64 + kp.toInt64 else (σ.2.1 j 2).toInt64).toInt32 := by
    have h2 := xr_hi (σ.2.1 j 2)
    have h3 := xr_hi kp
    rw [xk_eq, xminl h0 hk]
    have e1 : (σ.2.1 j 2 - σ.2.1 j 4).toInt = (σ.2.1 j 2).toInt - (σ.2.1 j 4).toInt := xsub (by omega) (by omega)
    have e2 : (imn kp (σ.2.1 j 2 - σ.2.1 j 4)).toInt = min kp.toInt ((σ.2.1 j 2).toInt - (σ.2.1 j 4).toInt) := by rw [imn_t, e1]
    rw [xadd (by rw [e2]; omega) (by rw [e2]; omega), e2]
    omega
  unfold oLu oC1
  rw [e]
/-- lose: one partition -/
def oLo (σ : SG) (p n : Nat) (kp : Int32) : SG := if bt (σ.1 3 p) n then oRi (oC3 (oC2 (oC1 σ (5 * p + n) kp) p (nI n)) p (nI n)) p else σ
/-- putLeader -/
def oPl (σ : SG) (p : Nat) (n : Int32) (nw : Int32) : SG := gTwo (sA (sA σ 4 p n) 5 p (σ.1 5 p + 1)) p 5 6 (-1) nw 5
theorem oT1_fr (s : SG × Int32) (p n : Nat) : (oT1 s p n).1.2 = s.1.2 ∧ (∀ i q, ¬ (i = 7 ∧ q = p) → (oT1 s p n).1.1 i q = s.1.1 i q) ∧ ∀ m, bt ((oT1 s p n).1.1 7 p) m → bt (s.1.1 7 p) m := by
  unfold oT1
  by_cases h1 : (s.1.1 7 p >>> (nI n &&& 31)) &&& 1 = 0
  · rw [if_pos h1]; exact ⟨rfl, fun _ _ _ => rfl, fun _ h => h⟩
  · rw [if_neg h1]
    by_cases h2 : nI n = s.1.1 4 p
    · rw [if_pos h2]; exact ⟨rfl, fun _ _ _ => rfl, fun _ h => h⟩
    · rw [if_neg h2]
      by_cases h3 : 10 < s.1.1 0 1 - s.1.2.1 (5 * p + n) 6
      · rw [if_pos h3]
        refine ⟨rfl, fun i q h => p2_ne _ _ h, fun m h => ?_⟩
        have h : bt ((sA s.1 7 p (s.1.1 7 p &&& ((1 <<< (nI n &&& 31)) ^^^ (-1)))).1 7 p) m := h
        rw [sA_s] at h
        exact (bt_and.mp h).1
      · rw [if_neg h3]; exact ⟨rfl, fun _ _ _ => rfl, fun _ h => h⟩
theorem oT2_fr (s : SG × Int32) (p : Nat) : ∀ n, (oT2 s p n).1.2 = s.1.2 ∧ (∀ i q, ¬ (i = 7 ∧ q = p) → (oT2 s p n).1.1 i q = s.1.1 i q) ∧ ∀ m, bt ((oT2 s p n).1.1 7 p) m → bt (s.1.1 7 p) m := by
  intro n
  induction n with
  | zero => exact ⟨rfl, fun _ _ _ => rfl, fun _ h => h⟩
  | succ n ih =>
    obtain ⟨a, b, c⟩ := oT1_fr (oT2 s p n) p n
    exact ⟨a.trans ih.1, fun i q h => (b i q h).trans (ih.2.1 i q h), fun m h => ih.2.2 m (c m h)⟩
theorem oTk_1 {σ : SG} {j l : Nat} {o : Int32} : (oTk σ j l o).1 = σ.1 := rfl
theorem oTn_fr {τ : SG} {F l : Nat} (hne : ¬ F = l) (h0 : 0 ≤ (τ.2.1 F 2).toInt) (h2 : (τ.2.1 l 2).toInt < 2000) (h3 : (τ.2.1 F 2).toInt < 2000) : ∀ k, (oTn τ F l k).1.1 = τ.1 ∧ (∀ i, ¬ i = F → (oTn τ F l k).1.2.1 i = τ.2.1 i ∧ (oTn τ F l k).1.2.2 i = τ.2.2 i) ∧ (∀ f, ¬ f = 2 → (oTn τ F l k).1.2.1 F f = τ.2.1 F f) ∧ (τ.2.1 F 2).toInt ≤ ((oTn τ F l k).1.2.1 F 2).toInt ∧ ((oTn τ F l k).1.2.1 F 2).toInt ≤ max (τ.2.1 F 2).toInt (τ.2.1 l 2).toInt := by
  intro k
  induction k with
  | zero => exact ⟨rfl, fun _ _ => ⟨rfl, rfl⟩, fun _ _ => rfl, Int.le_refl _, by show (τ.2.1 F 2).toInt ≤ _; omega⟩
  | succ k ih =>
    obtain ⟨a, b, c, d, e⟩ := ih
    rw [oTn]
    by_cases h : (oTn τ F l k).1.2.1 l 2 ≤ (oTn τ F l k).1.2.1 F 2
    · rw [if_pos h]; exact ⟨a, b, c, d, e⟩
    · rw [if_neg h]
      rw [xk_le] at h
      have bl := congrFun (b l (fun z => hne z.symm)).1 2
      rw [bl] at h
      have g : ((oTn τ F l k).1.2.1 F 2 + 1).toInt = ((oTn τ F l k).1.2.1 F 2).toInt + 1 := xaddk (k := 1) (by decide) (by omega) (by omega)
      have g2 : (oTk (oTn τ F l k).1 F l ((oTn τ F l k).1.2.1 F 2)).2.1 F 2 = (oTn τ F l k).1.2.1 F 2 + 1 := p2_at _ _ _ _
      refine ⟨a, fun i hi => ⟨(p2_na _ _ hi).trans (b i hi).1, (p2_na _ _ hi).trans (b i hi).2⟩, fun f hf => (p2_ne _ _ (fun z => hf z.2)).trans (c f hf), ?_, ?_⟩
      · show _ ≤ ((oTk (oTn τ F l k).1 F l ((oTn τ F l k).1.2.1 F 2)).2.1 F 2).toInt
        rw [g2, g]; omega
      · show ((oTk (oTn τ F l k).1 F l ((oTn τ F l k).1.2.1 F 2)).2.1 F 2).toInt ≤ _
        rw [g2, g]; omega
theorem oTn_st9 {τ : SG} {F l k : Nat} (h : (oTn τ F l k).1.2.1 l 2 ≤ (oTn τ F l k).1.2.1 F 2) : ∀ m, oTn τ F l (k + m) = oTn τ F l k := by
  intro m
  induction m with
  | zero => rfl
  | succ m ih =>
    show (if (oTn τ F l (k + m)).1.2.1 l 2 ≤ (oTn τ F l (k + m)).1.2.1 F 2 then _ else _ : SG × Int32) = _
    rw [ih, if_pos h]
    exact ih
theorem oTn_go {τ : SG} {F l k : Nat} (h : ¬ (oTn τ F l k).1.2.1 l 2 ≤ (oTn τ F l k).1.2.1 F 2) : oTn τ F l (k + 1) = (oTk (oTn τ F l k).1 F l ((oTn τ F l k).1.2.1 F 2), (oTn τ F l k).2 + 1) := if_neg h
set_option maxHeartbeats 4000000 in
set_option maxRecDepth 100000 in
/-- Partition.lose, exactly -/
theorem g_X2_lose (l : Launch) (dC : Nat → ClassId) (dI : Nat → Nat → Nat) (cy : Nat → ClassId) (v : Nat → Nat) (L : List Nat) (K N : Nat → Nat) (T : Nat → Nat → Nat) (I : Nat → Nat → Int32) (Q : Nat → Nat → Option Nat) (J : Nat → Nat → Int32) (sz : Nat) (pa ra : Nat → Nat) (kx : Nat → Prop) (σ : SG) (Gp Gn : Nat) (xn xk : Int32) (hE : REP v pa ra L K N T I Q J kx σ) (hp : Gp < 4) (ht9 : ¬ σ.1 2 Gp = 0) (hn : Gn < 5) (hxn : xn = nI Gn) (hN9 : LN (σ.2.1 (5 * Gp + Gn))) (hk0 : 0 ≤ xk.toInt) (h4a : (σ.2.1 (5 * Gp + Gn) 1).toInt ≤ (σ.2.1 (5 * Gp + Gn) 4).toInt) (h4b : (σ.2.1 (5 * Gp + Gn) 4).toInt ≤ (σ.2.1 (5 * Gp + Gn) 2).toInt) (hRH : RHp kx (oC3 (oC2 (oC1 σ (5 * Gp + Gn) xk) Gp (nI Gn)) Gp (nI Gn)) Gp) : Met l yX2_lose wsX2_lose ({ frames := 3, cells := 0, slots := 0, locals := 66 }) (va_Pc [.ref (pa Gp), .int xn, .int xk] (pW dC dI cy L (pF cy K N T I Q J) sz)) (va_Qv (fun d : (Nat → Nat → Int32) × (Nat → Nat → Option Nat) × (Nat → Nat → Int32) => REP v pa ra L K N T d.1 d.2.1 d.2.2 kx (oLo σ Gp Gn xk)) (fun (d : (Nat → Nat → Int32) × (Nat → Nat → Option Nat) × (Nat → Nat → Int32)) t => va_P (dC, dI) vwCl (va_pl L (pF cy K N T d.1 d.2.1 d.2.2)) t.heap ∧ va_K (dC, dI) vwCl (pTy cy) t ∧ va_D (va_A (va_pl L (pF cy K N T I Q J)) sz) (va_pl L (pF cy K N T d.1 d.2.1 d.2.2))) (va_A (va_pl L (pF cy K N T I Q J)) sz)) 0 0 (va_A (va_pl L (pF cy K N T I Q J)) sz) := by
  refine Met.ofW (cc := cX2_lose) (maxL := 5) (ret := none) (by decide) rfl ?_
  intro p e s m args below meth c s₁ B hml hv
  obtain ⟨rfl, hsz, ⟨hP, hK, hN⟩, hD0⟩ := hv
  have hx := B.exec
  have hb := B.bytes
  have hr := B.returns
  have hts := atoms_spec (ws := wsX2_lose) B.pre
  have hown : s.vm.findClass RX2 = some m.cls := findClass_of_methodNamed B.named
  have hlocks := B.notSynchronized
  have hi2 : ∀ w ∈ wsX20, w ∈ wsX2_lose := by decide +kernel
  have hi4 : ∀ w ∈ wsX40, w ∈ wsX2_lose := by decide +kernel
  have hl := lv_entry ([.ref (pa Gp), .int xn, .int xk]) (n := 5) (Nat.le_of_ble_eq_true rfl)
  rw [lg_entry_eq]
  generalize (lg_sl ([.ref (pa Gp), .int xn, .int xk]) ++ List.replicate (5 - (lg_sl ([.ref (pa Gp), .int xn, .int xk])).length) Slot.unset).toArray = ls at hl ⊢
  have hl : lv_has ls 5 [(0, .ref (pa Gp)), (1, .int xn), (2, .int xk)] := hl
  subst hsz
  have hD := hD0.self (sz := s.heap.size)
  generalize hAe : va_A (va_pl L (pF cy K N T I Q J)) s.heap.size = A at hD ⊢
  have hA : ∀ q : Nat, s.heap.size ≤ q → A q := fun q h => by rw [← hAe]; exact Or.inr h
  have hS : va_S A s.heap s.heap [] := va_S.rf
  have hR : RS v I Q J I Q J := RS.rf
  have hn28 := hN.1
  have hn30 := hN.2.1
  have hn37 := hN.2.2.1
  have hC := hE.ct
  refine lv_aload_n hx hb dX2_lose_0 rfl (lv_at hl 0 rfl) ?_
  refine lv_iload_n hx hb dX2_lose_1 rfl (lv_at hl 1 rfl) ?_
  obtain ⟨j560002, hj560002⟩ := pG_2 (cy := cy) (N := N) (T := T) (I := I) (Q := Q) (J := J) (hE.pL hp ht9).1 (hE.pL hp ht9).2
  refine va_csq (W.runV (As := [.int xn]) (rest := []) ⟨hx, hb, hml, hown, hts⟩ (g_X2_replicaAt l dC dI cy v L K N T I Q J pa ra kx σ Gp xn hE hp ht9) (cwV 1 hts gX2_lose_X2_replicaAt rfl rfl rfl (by decide +kernel) ⟨Nat.le_of_ble_eq_true rfl, Nat.le_of_ble_eq_true rfl⟩) ⟨pb_blind, va_recv hK hP (ci := 2) (q0 := j560002) rfl hj560002, fun U hU hW => ⟨rfl, pb_pre hP hK hN hU hW⟩⟩ rfl rfl hl.1 rfl (lv_room (Nat.le_of_ble_eq_true rfl)) dX2_lose_2 ⟨Nat.le_of_ble_eq_true rfl, Nat.le_of_ble_eq_true rfl⟩) (fun r560001 hr560001 => ?_)
  rcases hr560001 with ⟨rfl, hno560003⟩ | ⟨n560003, hn560003, en560003, hl560003, rfl⟩
  · refine W.eq (g2 := F0 m 5 ls [.null]) rfl ?_
    refine lv_astore_nN (lv' := [(3, .null), (0, .ref (pa Gp)), (1, .int xn), (2, .int xk)]) hx hb dX2_lose_5 rfl hl (by decide) rfl (fun ls hl => ?_)
    refine lv_aload_nN hx hb dX2_lose_6 rfl (lv_at hl 0 rfl) ?_
    refine lv_ifnonnullN hx hb dX2_lose_7 ?_
    exact W.vret hx hb hr (fun t ht hW => ⟨⟨(I, Q, J), rfl, by show REP v pa ra L K N T I Q J kx (oLo σ Gp Gn xk); rw [oLo, if_neg (fun q => hno560003 Gn hn hxn ⟨ht9, q⟩)]; exact hE, by rw [ht]; exact hP, va_K.moved hW.alike hK, hD⟩, hS.F ht⟩) hS.2.2 dX2_lose_10
  · refine W.eq (g2 := F0 m 5 ls [.ref (ra (5 * Gp + n560003))]) rfl ?_
    obtain rfl : Gn = n560003 := nI_inj5 hn hn560003 (hxn.symm.trans en560003)
    have hlo := hl560003
    refine lv_astore_n (lv' := [(3, .ref (ra (5 * Gp + Gn))), (0, .ref (pa Gp)), (1, .int xn), (2, .int xk)]) hx hb dX2_lose_5 rfl hl (by decide) rfl (fun ls hl => ?_)
    refine lv_aload_n hx hb dX2_lose_6 rfl (lv_at hl 0 rfl) ?_
    refine lv_ifnonnull (tgt := 11) hx hb dX2_lose_7 (by decide) ?_
    refine lv_aload_n hx hb dX2_lose_11 rfl (lv_at hl 0 rfl) ?_
    refine lv_iload_n hx hb dX2_lose_12 rfl (lv_at hl 3 rfl) ?_
    obtain ⟨j560004, hj560004⟩ := pG_4 (cy := cy) (N := N) (T := T) (I := I) (Q := Q) (J := J) (hE.rL hp hn560003 hl560003).1 (hE.rL hp hn560003 hl560003).2
    have hFc := pfree hD hS hA
    refine va_callv (va_runV (As := [.int xk]) (rest := []) ⟨hx, hb, hml, hown, hts⟩ (g_X4_loseUnflushed l dC dI cy v L K N T I Q J s.heap.size pa ra kx σ Gp Gn xk hE hp hn hl560003 hN9 hk0 h4a h4b) (cwV 1 hts gX2_lose_X4_loseUnflushed rfl rfl rfl (by decide +kernel) ⟨Nat.le_of_ble_eq_true rfl, Nat.le_of_ble_eq_true rfl⟩) ⟨pw_blind, va_recv hK hP (ci := 4) (q0 := j560004) rfl hj560004, fun U hU hW => ⟨rfl, pw_pre hP hK hN hD hU hW⟩⟩ rfl rfl hl.1 rfl (lv_room (Nat.le_of_ble_eq_true rfl)) dX2_lose_13 ⟨Nat.le_of_ble_eq_true rfl, Nat.le_of_ble_eq_true rfl⟩) hS (fun q _ h => hFc q h) hFc (fun d9 t H1 locs ht hvm hw hB hz1 hk1 hS => ?_)
    obtain ⟨I560005, Q560005, J560005⟩ := d9
    obtain ⟨hP, hK1, hD1⟩ := hB
    rw [ht] at hP
    have hD := hD1.weaken (fun _ _ _ h => hFc _ h)
    generalize H1 = H at hP hS ⊢
    have hP : va_P (dC, dI) vwCl (va_pl L (pF cy K N T I560005 Q560005 J560005)) H := hP
    have hD : va_D A (va_pl L (pF cy K N T I560005 Q560005 J560005)) := hD
    have hR : RS v I560005 Q560005 J560005 I560005 Q560005 J560005 := RS.rf
    obtain ⟨sg560007, esg560007⟩ : ∃ z, z = oC1 σ (5 * Gp + Gn) xk := ⟨_, rfl⟩
    have hE : REP v pa ra L K N T I560005 Q560005 J560005 kx sg560007 := by rw [esg560007]; rw [← oLu_eq hk0 (Int.le_trans hN9.1 h4a) h4b]; exact hw
    have hC := hE.ct
    have h1sg560007 : sg560007.1 = σ.1 := by rw [esg560007]; exact rfl
    have hl560003 : lvj sg560007 Gp Gn := by unfold lvj; rw [h1sg560007]; exact hl560003
    have ht9 : ¬ sg560007.1 2 Gp = 0 := by rw [h1sg560007]; exact ht9
    refine lv_aload_n hx hb dX2_lose_16 rfl (lv_at hl 1 rfl) ?_
    obtain ⟨j560008, hj560008⟩ := pG_2 (cy := cy) (N := N) (T := T) (I := I560005) (Q := Q560005) (J := J560005) (hE.pL hp ht9).1 (hE.pL hp ht9).2
    refine va_get (D := (dC, dI)) (ci := 2) (v := .int (I560005 (pa Gp) 3)) (C := RX2) (T := TX2) (N := 6) hx hb hts hi2 hown hK hP j560008 hj560008 rfl 3 (by decide) (hts (.fieldLink RX2 34 "TallyLogs$Partition" "leader" "I") (by decide +kernel)) (fun _ h9 => h9) rfl dX2_lose_17 ?_
    refine lv_topi (fun x560009 ex560009 => ?_)
    have sx560009 : x560009 = sg560007.1 4 Gp := ex560009.trans ((hE.pt Gp hp).2 ht9).2.1.2.2.1
    refine lv_iload_n hx hb dX2_lose_20 rfl (lv_at hl 2 rfl) ?_
    refine lv_icmp_ne (tgt := 29) hx hb dX2_lose_21 (by decide) (fun c560010 => ?_) (fun c560010 => ?_)
    · have kc560010 : ¬ (x560009.toInt = xn.toInt) := by have h9 := c560010; rw [xk_eq] at h9; exact h9
      refine lv_aload_n hx hb dX2_lose_29 rfl (lv_at hl 1 rfl) ?_
      obtain ⟨j560011, hj560011⟩ := pG_2 (cy := cy) (N := N) (T := T) (I := I560005) (Q := Q560005) (J := J560005) (hE.pL hp ht9).1 (hE.pL hp ht9).2
      refine va_get (D := (dC, dI)) (ci := 2) (v := .int (I560005 (pa Gp) 5)) (C := RX2) (T := TX2) (N := 6) hx hb hts hi2 hown hK hP j560011 hj560011 rfl 5 (by decide) (hts (.fieldLink RX2 27 "TallyLogs$Partition" "inStep" "I") (by decide +kernel)) (fun _ h9 => h9) rfl dX2_lose_30 ?_
      refine lv_topi (fun x560012 ex560012 => ?_)
      have sx560012 : x560012 = sg560007.1 7 Gp := ex560012.trans ((hE.pt Gp hp).2 ht9).2.1.2.2.2.2
      refine lv_iconst (v := 1) hx hb dX2_lose_33 (by decide) ?_
      refine lv_iload_n hx hb dX2_lose_34 rfl (lv_at hl 2 rfl) ?_
      refine lv_ishl hx hb dX2_lose_35 ?_
      refine lv_topi (fun v560013 ev560013 => ?_)
      refine lv_iconst (v := (-1)) hx hb dX2_lose_36 (by decide) ?_
      refine lv_ixor hx hb dX2_lose_37 ?_
      refine lv_topi (fun v560014 ev560014 => ?_)
      refine lv_iand hx hb dX2_lose_38 ?_
      refine lv_topi (fun v560015 ev560015 => ?_)
      refine lv_istore (lv' := [(4, .int v560015), (3, .ref (ra (5 * Gp + Gn))), (0, .ref (pa Gp)), (1, .int xn), (2, .int xk)]) hx hb dX2_lose_39 hl (by decide) rfl (fun ls hl => ?_)
      refine lv_iload hx hb dX2_lose_41 (lv_at hl 0 rfl) ?_
      refine lv_if_eq (tgt := 52) hx hb dX2_lose_43 (by decide) (fun c560016 => ?_) (fun c560016 => ?_)
      · have kc560016 : v560015.toInt = 0 := by have h9 := c560016; rw [xk_eq, xk_0] at h9; exact h9
        have hc2 : oC2 sg560007 Gp (nI Gn) = sg560007 := by rw [oC2, if_neg (fun q => c560010 ((sx560009.trans q).trans hxn.symm))]
        have hov : sg560007.1 7 Gp &&& ((1 <<< (nI Gn &&& 31)) ^^^ (-1)) = v560015 := by rw [ev560015, sx560012, ev560014, ev560013, hxn]
        have hc3 : oC3 sg560007 Gp (nI Gn) = sg560007 := by rw [oC3, if_pos (hov.trans c560016)]
        have hv9 : oC3 (oC2 (oC1 σ (5 * Gp + Gn) xk) Gp (nI Gn)) Gp (nI Gn) = sg560007 := by rw [← esg560007, hc2, hc3]
        have hRH9 : RHp kx sg560007 Gp := by rw [← hv9]; exact hRH
        refine lv_aload_n hx hb dX2_lose_52 rfl (lv_at hl 2 rfl) ?_
        obtain ⟨j560017, hj560017⟩ := pG_2 (cy := cy) (N := N) (T := T) (I := I560005) (Q := Q560005) (J := J560005) (hE.pL hp ht9).1 (hE.pL hp ht9).2
        have hFc := pfree hD hS hA
        refine va_callv (va_runV (As := []) (rest := []) ⟨hx, hb, hml, hown, hts⟩ (g_X2_raiseHw l dC dI cy v L K N T I560005 Q560005 J560005 H.size pa ra kx sg560007 Gp hE hp ht9 hRH9.1 hRH9.2.1 hRH9.2.2.1 hRH9.2.2.2) (cwV 0 hts gX2_lose_X2_raiseHw rfl rfl rfl (by decide +kernel) ⟨Nat.le_of_ble_eq_true rfl, Nat.le_of_ble_eq_true rfl⟩) ⟨pw_blind, va_recv hK hP (ci := 2) (q0 := j560017) rfl hj560017, fun U hU hW => ⟨rfl, pw_pre hP hK hN hD hU hW⟩⟩ rfl rfl hl.1 rfl (lv_room (Nat.le_of_ble_eq_true rfl)) dX2_lose_53 ⟨Nat.le_of_ble_eq_true rfl, Nat.le_of_ble_eq_true rfl⟩) hS (fun q _ h => hFc q h) hFc (fun d9 t H1 locs ht hvm hw hB hz1 hk1 hS => ?_)
        obtain ⟨I560018, Q560018, J560018⟩ := d9
        obtain ⟨hP, hK1, hD1⟩ := hB
        rw [ht] at hP
        have hD := hD1.weaken (fun _ _ _ h => hFc _ h)
        generalize H1 = H at hP hS ⊢
        have hP : va_P (dC, dI) vwCl (va_pl L (pF cy K N T I560018 Q560018 J560018)) H := hP
        have hD : va_D A (va_pl L (pF cy K N T I560018 Q560018 J560018)) := hD
        have hR : RS v I560018 Q560018 J560018 I560018 Q560018 J560018 := RS.rf
        obtain ⟨sg560020, esg560020⟩ : ∃ z, z = oRi sg560007 Gp := ⟨_, rfl⟩
        have hE : REP v pa ra L K N T I560018 Q560018 J560018 kx sg560020 := by rw [esg560020]; exact hw
        have hC := hE.ct
        have h1sg560020 : sg560020.1 = sg560007.1 := by rw [esg560020]; exact oRi_1 _ _
        have hl560003 : lvj sg560020 Gp Gn := by unfold lvj; rw [h1sg560020]; exact hl560003
        have ht9 : ¬ sg560020.1 2 Gp = 0 := by rw [h1sg560020]; exact ht9
        exact W.vret hx hb hr (fun t ht hW => ⟨⟨(I560018, Q560018, J560018), rfl, by show REP v pa ra L K N T I560018 Q560018 J560018 kx (oLo σ Gp Gn xk); rw [oLo, if_pos hlo.2, hv9, ← esg560020]; exact hE, by rw [ht]; exact hP, va_K.moved hW.alike hK, hD⟩, hS.F ht⟩) hS.2.2 dX2_lose_56
      · have kc560016 : ¬ (v560015.toInt = 0) := by have h9 := c560016; rw [xk_eq, xk_0] at h9; exact h9
        refine lv_aload_n hx hb dX2_lose_46 rfl (lv_at hl 2 rfl) ?_
        refine lv_iload hx hb dX2_lose_47 (lv_at hl 0 rfl) ?_
        obtain ⟨j560021, hj560021⟩ := pG_2 (cy := cy) (N := N) (T := T) (I := I560005) (Q := Q560005) (J := J560005) (hE.pL hp ht9).1 (hE.pL hp ht9).2
        have hDo := hD
        refine va_put (D := (dC, dI)) (ci := 2) (v := .int v560015) (ty := .int) (C := RX2) (T := TX2) (N := 6) hx hb hts hi2 tyX2 tyX2_ok nmX2 hown hK hP hD hS j560021 hj560021 rfl 5 (by decide) (hts (.fieldLink RX2 27 "TallyLogs$Partition" "inStep" "I") (by decide +kernel)) (fun _ h9 => h9) rfl (by decide +kernel) rfl rfl (Nat.le_of_ble_eq_true rfl) dX2_lose_49 (fun H locs hP hD hS => ?_)
        have hP := Eq.mp (congrArg (fun w => va_P (dC, dI) vwCl w H) (pP_2_5 (x := v560015) hDo (hE.pL hp ht9).1 (hE.pL hp ht9).2 hj560021)) hP
        obtain ⟨I560022, eI560022⟩ : ∃ z, z = p2 I560005 (pa Gp) 5 v560015 := ⟨_, rfl⟩
        rw [← eI560022] at hP
        have hR : RS v I560022 Q560005 J560005 I560022 Q560005 J560005 := RS.rf
        obtain ⟨sg560023, esg560023⟩ : ∃ z, z = sA sg560007 7 Gp v560015 := ⟨_, rfl⟩
        have hE : REP v pa ra L K N T I560022 Q560005 J560005 kx sg560023 := by rw [esg560023, eI560022]; exact hE.wp hp ht9 (by decide)
        have hl560003 : lvj sg560023 Gp Gn := by rw [esg560023]; exact lvj_sA hl560003 (by decide) (by decide)
        have ht9 : ¬ sg560023.1 2 Gp = 0 := by rw [esg560023, sA_n (by decide)]; exact ht9
        have hC : CT v L K N T I560022 Q560005 := by rw [eI560022]; exact hC.pi (by rw [(hE.pL hp ht9).2]; decide)
        have hD : va_D A (va_pl L (pF cy K N T I560022 Q560005 J560005)) := pD hDo
        have hc2 : oC2 sg560007 Gp (nI Gn) = sg560007 := by rw [oC2, if_neg (fun q => c560010 ((sx560009.trans q).trans hxn.symm))]
        have hov : sg560007.1 7 Gp &&& ((1 <<< (nI Gn &&& 31)) ^^^ (-1)) = v560015 := by rw [ev560015, sx560012, ev560014, ev560013, hxn]
        have hc3 : oC3 sg560007 Gp (nI Gn) = sg560023 := by rw [oC3, if_neg (fun q => c560016 (hov.symm.trans q)), hov, esg560023]
        have hv9 : oC3 (oC2 (oC1 σ (5 * Gp + Gn) xk) Gp (nI Gn)) Gp (nI Gn) = sg560023 := by rw [← esg560007, hc2, hc3]
        have hRH9 : RHp kx sg560023 Gp := by rw [← hv9]; exact hRH
        refine lv_aload_n hx hb dX2_lose_52 rfl (lv_at hl 2 rfl) ?_
        obtain ⟨j560024, hj560024⟩ := pG_2 (cy := cy) (N := N) (T := T) (I := I560022) (Q := Q560005) (J := J560005) (hE.pL hp ht9).1 (hE.pL hp ht9).2
        have hFc := pfree hD hS hA
        refine va_callv (va_runV (As := []) (rest := []) ⟨hx, hb, hml, hown, hts⟩ (g_X2_raiseHw l dC dI cy v L K N T I560022 Q560005 J560005 H.size pa ra kx sg560023 Gp hE hp ht9 hRH9.1 hRH9.2.1 hRH9.2.2.1 hRH9.2.2.2) (cwV 0 hts gX2_lose_X2_raiseHw rfl rfl rfl (by decide +kernel) ⟨Nat.le_of_ble_eq_true rfl, Nat.le_of_ble_eq_true rfl⟩) ⟨pw_blind, va_recv hK hP (ci := 2) (q0 := j560024) rfl hj560024, fun U hU hW => ⟨rfl, pw_pre hP hK hN hD hU hW⟩⟩ rfl rfl hl.1 rfl (lv_room (Nat.le_of_ble_eq_true rfl)) dX2_lose_53 ⟨Nat.le_of_ble_eq_true rfl, Nat.le_of_ble_eq_true rfl⟩) hS (fun q _ h => hFc q h) hFc (fun d9 t H1 locs ht hvm hw hB hz1 hk1 hS => ?_)
        obtain ⟨I560025, Q560025, J560025⟩ := d9
        obtain ⟨hP, hK1, hD1⟩ := hB
        rw [ht] at hP
        have hD := hD1.weaken (fun _ _ _ h => hFc _ h)
        generalize H1 = H at hP hS ⊢
        have hP : va_P (dC, dI) vwCl (va_pl L (pF cy K N T I560025 Q560025 J560025)) H := hP
        have hD : va_D A (va_pl L (pF cy K N T I560025 Q560025 J560025)) := hD
        have hR : RS v I560025 Q560025 J560025 I560025 Q560025 J560025 := RS.rf
        obtain ⟨sg560027, esg560027⟩ : ∃ z, z = oRi sg560023 Gp := ⟨_, rfl⟩
        have hE : REP v pa ra L K N T I560025 Q560025 J560025 kx sg560027 := by rw [esg560027]; exact hw
        have hC := hE.ct
        have h1sg560027 : sg560027.1 = sg560023.1 := by rw [esg560027]; exact oRi_1 _ _
        have hl560003 : lvj sg560027 Gp Gn := by unfold lvj; rw [h1sg560027]; exact hl560003
        have ht9 : ¬ sg560027.1 2 Gp = 0 := by rw [h1sg560027]; exact ht9
        exact W.vret hx hb hr (fun t ht hW => ⟨⟨(I560025, Q560025, J560025), rfl, by show REP v pa ra L K N T I560025 Q560025 J560025 kx (oLo σ Gp Gn xk); rw [oLo, if_pos hlo.2, hv9, ← esg560027]; exact hE, by rw [ht]; exact hP, va_K.moved hW.alike hK, hD⟩, hS.F ht⟩) hS.2.2 dX2_lose_56
    · have kc560010 : x560009.toInt = xn.toInt := by have h9 := c560010; rw [xk_eq] at h9; exact h9
      refine lv_aload_n hx hb dX2_lose_24 rfl (lv_at hl 1 rfl) ?_
      refine lv_iconst (v := (-1)) hx hb dX2_lose_25 (by decide) ?_
      obtain ⟨j560028, hj560028⟩ := pG_2 (cy := cy) (N := N) (T := T) (I := I560005) (Q := Q560005) (J := J560005) (hE.pL hp ht9).1 (hE.pL hp ht9).2
      have hDo := hD
      refine va_put (D := (dC, dI)) (ci := 2) (v := .int (-1)) (ty := .int) (C := RX2) (T := TX2) (N := 6) hx hb hts hi2 tyX2 tyX2_ok nmX2 hown hK hP hD hS j560028 hj560028 rfl 3 (by decide) (hts (.fieldLink RX2 34 "TallyLogs$Partition" "leader" "I") (by decide +kernel)) (fun _ h9 => h9) rfl (by decide +kernel) rfl rfl (Nat.le_of_ble_eq_true rfl) dX2_lose_26 (fun H locs hP hD hS => ?_)
      have hP := Eq.mp (congrArg (fun w => va_P (dC, dI) vwCl w H) (pP_2_3 (x := (-1)) hDo (hE.pL hp ht9).1 (hE.pL hp ht9).2 hj560028)) hP
      obtain ⟨I560029, eI560029⟩ : ∃ z, z = p2 I560005 (pa Gp) 3 (-1) := ⟨_, rfl⟩
      rw [← eI560029] at hP
      have hR : RS v I560029 Q560005 J560005 I560029 Q560005 J560005 := RS.rf
      obtain ⟨sg560030, esg560030⟩ : ∃ z, z = sA sg560007 4 Gp (-1) := ⟨_, rfl⟩
      have hE : REP v pa ra L K N T I560029 Q560005 J560005 kx sg560030 := by rw [esg560030, eI560029]; exact hE.wp hp ht9 (by decide)
      have hl560003 : lvj sg560030 Gp Gn := by rw [esg560030]; exact lvj_sA hl560003 (by decide) (by decide)
      have ht9 : ¬ sg560030.1 2 Gp = 0 := by rw [esg560030, sA_n (by decide)]; exact ht9
      have hC : CT v L K N T I560029 Q560005 := by rw [eI560029]; exact hC.pi (by rw [(hE.pL hp ht9).2]; decide)
      have hD : va_D A (va_pl L (pF cy K N T I560029 Q560005 J560005)) := pD hDo
      refine lv_aload_n hx hb dX2_lose_29 rfl (lv_at hl 1 rfl) ?_
      obtain ⟨j560031, hj560031⟩ := pG_2 (cy := cy) (N := N) (T := T) (I := I560029) (Q := Q560005) (J := J560005) (hE.pL hp ht9).1 (hE.pL hp ht9).2
      refine va_get (D := (dC, dI)) (ci := 2) (v := .int (I560029 (pa Gp) 5)) (C := RX2) (T := TX2) (N := 6) hx hb hts hi2 hown hK hP j560031 hj560031 rfl 5 (by decide) (hts (.fieldLink RX2 27 "TallyLogs$Partition" "inStep" "I") (by decide +kernel)) (fun _ h9 => h9) rfl dX2_lose_30 ?_
      refine lv_topi (fun x560032 ex560032 => ?_)
      have sx560032 : x560032 = sg560030.1 7 Gp := ex560032.trans ((hE.pt Gp hp).2 ht9).2.1.2.2.2.2
      refine lv_iconst (v := 1) hx hb dX2_lose_33 (by decide) ?_
      refine lv_iload_n hx hb dX2_lose_34 rfl (lv_at hl 2 rfl) ?_
      refine lv_ishl hx hb dX2_lose_35 ?_
      refine lv_topi (fun v560033 ev560033 => ?_)
      refine lv_iconst (v := (-1)) hx hb dX2_lose_36 (by decide) ?_
      refine lv_ixor hx hb dX2_lose_37 ?_
      refine lv_topi (fun v560034 ev560034 => ?_)
      refine lv_iand hx hb dX2_lose_38 ?_
      refine lv_topi (fun v560035 ev560035 => ?_)
      refine lv_istore (lv' := [(4, .int v560035), (3, .ref (ra (5 * Gp + Gn))), (0, .ref (pa Gp)), (1, .int xn), (2, .int xk)]) hx hb dX2_lose_39 hl (by decide) rfl (fun ls hl => ?_)
      refine lv_iload hx hb dX2_lose_41 (lv_at hl 0 rfl) ?_
      refine lv_if_eq (tgt := 52) hx hb dX2_lose_43 (by decide) (fun c560036 => ?_) (fun c560036 => ?_)
      · have kc560036 : v560035.toInt = 0 := by have h9 := c560036; rw [xk_eq, xk_0] at h9; exact h9
        have hc2 : oC2 sg560007 Gp (nI Gn) = sg560030 := by rw [oC2, if_pos (sx560009.symm.trans (c560010.trans hxn)), esg560030]
        have hov : sg560030.1 7 Gp &&& ((1 <<< (nI Gn &&& 31)) ^^^ (-1)) = v560035 := by rw [ev560035, sx560032, ev560034, ev560033, hxn]
        have hc3 : oC3 sg560030 Gp (nI Gn) = sg560030 := by rw [oC3, if_pos (hov.trans c560036)]
        have hv9 : oC3 (oC2 (oC1 σ (5 * Gp + Gn) xk) Gp (nI Gn)) Gp (nI Gn) = sg560030 := by rw [← esg560007, hc2, hc3]
        have hRH9 : RHp kx sg560030 Gp := by rw [← hv9]; exact hRH
        refine lv_aload_n hx hb dX2_lose_52 rfl (lv_at hl 2 rfl) ?_
        obtain ⟨j560037, hj560037⟩ := pG_2 (cy := cy) (N := N) (T := T) (I := I560029) (Q := Q560005) (J := J560005) (hE.pL hp ht9).1 (hE.pL hp ht9).2
        have hFc := pfree hD hS hA
        refine va_callv (va_runV (As := []) (rest := []) ⟨hx, hb, hml, hown, hts⟩ (g_X2_raiseHw l dC dI cy v L K N T I560029 Q560005 J560005 H.size pa ra kx sg560030 Gp hE hp ht9 hRH9.1 hRH9.2.1 hRH9.2.2.1 hRH9.2.2.2) (cwV 0 hts gX2_lose_X2_raiseHw rfl rfl rfl (by decide +kernel) ⟨Nat.le_of_ble_eq_true rfl, Nat.le_of_ble_eq_true rfl⟩) ⟨pw_blind, va_recv hK hP (ci := 2) (q0 := j560037) rfl hj560037, fun U hU hW => ⟨rfl, pw_pre hP hK hN hD hU hW⟩⟩ rfl rfl hl.1 rfl (lv_room (Nat.le_of_ble_eq_true rfl)) dX2_lose_53 ⟨Nat.le_of_ble_eq_true rfl, Nat.le_of_ble_eq_true rfl⟩) hS (fun q _ h => hFc q h) hFc (fun d9 t H1 locs ht hvm hw hB hz1 hk1 hS => ?_)
        obtain ⟨I560038, Q560038, J560038⟩ := d9
        obtain ⟨hP, hK1, hD1⟩ := hB
        rw [ht] at hP
        have hD := hD1.weaken (fun _ _ _ h => hFc _ h)
        generalize H1 = H at hP hS ⊢
        have hP : va_P (dC, dI) vwCl (va_pl L (pF cy K N T I560038 Q560038 J560038)) H := hP
        have hD : va_D A (va_pl L (pF cy K N T I560038 Q560038 J560038)) := hD
        have hR : RS v I560038 Q560038 J560038 I560038 Q560038 J560038 := RS.rf
        obtain ⟨sg560040, esg560040⟩ : ∃ z, z = oRi sg560030 Gp := ⟨_, rfl⟩
        have hE : REP v pa ra L K N T I560038 Q560038 J560038 kx sg560040 := by rw [esg560040]; exact hw
        have hC := hE.ct
        have h1sg560040 : sg560040.1 = sg560030.1 := by rw [esg560040]; exact oRi_1 _ _
        have hl560003 : lvj sg560040 Gp Gn := by unfold lvj; rw [h1sg560040]; exact hl560003
        have ht9 : ¬ sg560040.1 2 Gp = 0 := by rw [h1sg560040]; exact ht9
        exact W.vret hx hb hr (fun t ht hW => ⟨⟨(I560038, Q560038, J560038), rfl, by show REP v pa ra L K N T I560038 Q560038 J560038 kx (oLo σ Gp Gn xk); rw [oLo, if_pos hlo.2, hv9, ← esg560040]; exact hE, by rw [ht]; exact hP, va_K.moved hW.alike hK, hD⟩, hS.F ht⟩) hS.2.2 dX2_lose_56
      · have kc560036 : ¬ (v560035.toInt = 0) := by have h9 := c560036; rw [xk_eq, xk_0] at h9; exact h9
        refine lv_aload_n hx hb dX2_lose_46 rfl (lv_at hl 2 rfl) ?_
        refine lv_iload hx hb dX2_lose_47 (lv_at hl 0 rfl) ?_
        obtain ⟨j560041, hj560041⟩ := pG_2 (cy := cy) (N := N) (T := T) (I := I560029) (Q := Q560005) (J := J560005) (hE.pL hp ht9).1 (hE.pL hp ht9).2
        have hDo := hD
        refine va_put (D := (dC, dI)) (ci := 2) (v := .int v560035) (ty := .int) (C := RX2) (T := TX2) (N := 6) hx hb hts hi2 tyX2 tyX2_ok nmX2 hown hK hP hD hS j560041 hj560041 rfl 5 (by decide) (hts (.fieldLink RX2 27 "TallyLogs$Partition" "inStep" "I") (by decide +kernel)) (fun _ h9 => h9) rfl (by decide +kernel) rfl rfl (Nat.le_of_ble_eq_true rfl) dX2_lose_49 (fun H locs hP hD hS => ?_)
        have hP := Eq.mp (congrArg (fun w => va_P (dC, dI) vwCl w H) (pP_2_5 (x := v560035) hDo (hE.pL hp ht9).1 (hE.pL hp ht9).2 hj560041)) hP
        obtain ⟨I560042, eI560042⟩ : ∃ z, z = p2 I560029 (pa Gp) 5 v560035 := ⟨_, rfl⟩
        rw [← eI560042] at hP
        have hR : RS v I560042 Q560005 J560005 I560042 Q560005 J560005 := RS.rf
        obtain ⟨sg560043, esg560043⟩ : ∃ z, z = sA sg560030 7 Gp v560035 := ⟨_, rfl⟩
        have hE : REP v pa ra L K N T I560042 Q560005 J560005 kx sg560043 := by rw [esg560043, eI560042]; exact hE.wp hp ht9 (by decide)
        have hl560003 : lvj sg560043 Gp Gn := by rw [esg560043]; exact lvj_sA hl560003 (by decide) (by decide)
        have ht9 : ¬ sg560043.1 2 Gp = 0 := by rw [esg560043, sA_n (by decide)]; exact ht9
        have hC : CT v L K N T I560042 Q560005 := by rw [eI560042]; exact hC.pi (by rw [(hE.pL hp ht9).2]; decide)
        have hD : va_D A (va_pl L (pF cy K N T I560042 Q560005 J560005)) := pD hDo
        have hc2 : oC2 sg560007 Gp (nI Gn) = sg560030 := by rw [oC2, if_pos (sx560009.symm.trans (c560010.trans hxn)), esg560030]
        have hov : sg560030.1 7 Gp &&& ((1 <<< (nI Gn &&& 31)) ^^^ (-1)) = v560035 := by rw [ev560035, sx560032, ev560034, ev560033, hxn]
        have hc3 : oC3 sg560030 Gp (nI Gn) = sg560043 := by rw [oC3, if_neg (fun q => c560036 (hov.symm.trans q)), hov, esg560043]
        have hv9 : oC3 (oC2 (oC1 σ (5 * Gp + Gn) xk) Gp (nI Gn)) Gp (nI Gn) = sg560043 := by rw [← esg560007, hc2, hc3]
        have hRH9 : RHp kx sg560043 Gp := by rw [← hv9]; exact hRH
        refine lv_aload_n hx hb dX2_lose_52 rfl (lv_at hl 2 rfl) ?_
        obtain ⟨j560044, hj560044⟩ := pG_2 (cy := cy) (N := N) (T := T) (I := I560042) (Q := Q560005) (J := J560005) (hE.pL hp ht9).1 (hE.pL hp ht9).2
        have hFc := pfree hD hS hA
        refine va_callv (va_runV (As := []) (rest := []) ⟨hx, hb, hml, hown, hts⟩ (g_X2_raiseHw l dC dI cy v L K N T I560042 Q560005 J560005 H.size pa ra kx sg560043 Gp hE hp ht9 hRH9.1 hRH9.2.1 hRH9.2.2.1 hRH9.2.2.2) (cwV 0 hts gX2_lose_X2_raiseHw rfl rfl rfl (by decide +kernel) ⟨Nat.le_of_ble_eq_true rfl, Nat.le_of_ble_eq_true rfl⟩) ⟨pw_blind, va_recv hK hP (ci := 2) (q0 := j560044) rfl hj560044, fun U hU hW => ⟨rfl, pw_pre hP hK hN hD hU hW⟩⟩ rfl rfl hl.1 rfl (lv_room (Nat.le_of_ble_eq_true rfl)) dX2_lose_53 ⟨Nat.le_of_ble_eq_true rfl, Nat.le_of_ble_eq_true rfl⟩) hS (fun q _ h => hFc q h) hFc (fun d9 t H1 locs ht hvm hw hB hz1 hk1 hS => ?_)
        obtain ⟨I560045, Q560045, J560045⟩ := d9
        obtain ⟨hP, hK1, hD1⟩ := hB
        rw [ht] at hP
        have hD := hD1.weaken (fun _ _ _ h => hFc _ h)
        generalize H1 = H at hP hS ⊢
        have hP : va_P (dC, dI) vwCl (va_pl L (pF cy K N T I560045 Q560045 J560045)) H := hP
        have hD : va_D A (va_pl L (pF cy K N T I560045 Q560045 J560045)) := hD
        have hR : RS v I560045 Q560045 J560045 I560045 Q560045 J560045 := RS.rf
        obtain ⟨sg560047, esg560047⟩ : ∃ z, z = oRi sg560043 Gp := ⟨_, rfl⟩
        have hE : REP v pa ra L K N T I560045 Q560045 J560045 kx sg560047 := by rw [esg560047]; exact hw
        have hC := hE.ct
        have h1sg560047 : sg560047.1 = sg560043.1 := by rw [esg560047]; exact oRi_1 _ _
        have hl560003 : lvj sg560047 Gp Gn := by unfold lvj; rw [h1sg560047]; exact hl560003
        have ht9 : ¬ sg560047.1 2 Gp = 0 := by rw [h1sg560047]; exact ht9
        exact W.vret hx hb hr (fun t ht hW => ⟨⟨(I560045, Q560045, J560045), rfl, by show REP v pa ra L K N T I560045 Q560045 J560045 kx (oLo σ Gp Gn xk); rw [oLo, if_pos hlo.2, hv9, ← esg560047]; exact hE, by rw [ht]; exact hP, va_K.moved hW.alike hK, hD⟩, hS.F ht⟩) hS.2.2 dX2_lose_56
