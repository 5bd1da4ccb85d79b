/-! what holds of the cluster's value at any time -/
/-- one partition, by who is up -/
def PI (u : Int32) (σ : SG) (p : Nat) : Prop :=
  (σ.1 2 p = 0 → σ.1 4 p < 0 ∧ ∀ n, n < 5 → ∀ f, 1 ≤ f → f ≤ 4 → σ.2.1 (5 * p + n) f = 0) ∧
  (¬ σ.1 2 p = 0 → (B5 (σ.1 7 p) ∧ B5 (σ.1 3 p)) ∧ (∀ m, m < 5 → bt (σ.1 7 p) m → bt (σ.1 3 p) m) ∧
    (σ.1 4 p = -1 ∨ ∃ m, m < 5 ∧ σ.1 4 p = nI m ∧ bt (σ.1 7 p) m ∧ bt u m) ∧
    ((∀ m, m < 5 → bt (σ.1 7 p) m → bt u m) ∨ ∃ m, m < 5 ∧ ∀ k, k < 5 → bt (σ.1 7 p) k → k = m))
/-- one log: its records, what is flushed -/
def RF (σ : SG) (j : Nat) : Prop := RK σ j ∧ (σ.2.1 j 4).toInt ≤ (σ.2.1 j 2).toInt
/-- one producer: by what it ends -/
def PK (σ : SG) (k : Nat) : Prop := σ.1 9 k = 2 → σ.1 12 k = 1 ∨ σ.1 12 k = 2
def SK (σ : SG) : Prop := (∀ p, p < 4 → PI (σ.1 0 0) σ p) ∧ (∀ j, j < 20 → RF σ j) ∧ ∀ k, k < 6 → PK σ k
def LA (E : Int) (σ : SG) : Prop := ∀ j, j < 20 → LI E (σ.2.1 j)
/-- the logs whose known is left out: the leader's, those of nodes that are down -/
def kxo (σ : SG) (j : Nat) : Prop := σ.1 4 (j / 5) = nI (j % 5) ∨ ¬ bt (σ.1 0 0) (j % 5)
section XK
variable {u : Int32} {σ σ' : SG} {p j k : Nat} {E : Int}
theorem PI.of (h : PI u σ p) (h2 : σ'.1 2 p = σ.1 2 p) (h3 : σ'.1 3 p = σ.1 3 p) (h4 : σ'.1 4 p = σ.1 4 p) (h7 : σ'.1 7 p = σ.1 7 p) (hl : σ.1 2 p = 0 → ∀ n, n < 5 → ∀ f, 1 ≤ f → f ≤ 4 → σ'.2.1 (5 * p + n) f = σ.2.1 (5 * p + n) f) : PI u σ' p := by
  unfold PI
  rw [h2, h3, h4, h7]
  exact ⟨fun z => ⟨(h.1 z).1, fun n hn f f1 f2 => (hl z n hn f f1 f2).trans ((h.1 z).2 n hn f f1 f2)⟩, h.2⟩
theorem RF.of (h : RF σ j) (h1 : σ'.2.1 j 1 = σ.2.1 j 1) (h2 : σ'.2.1 j 2 = σ.2.1 j 2) (h4 : σ'.2.1 j 4 = σ.2.1 j 4) (hz : σ'.2.2 j = σ.2.2 j) : RF σ' j := by
  unfold RF RK zb ze
  rw [h1, h2, h4, hz]
  exact h
theorem PK.of (h : PK σ k) (h9 : σ'.1 9 k = σ.1 9 k) (h12 : σ'.1 12 k = σ.1 12 k) : PK σ' k := by
  unfold PK
  rw [h9, h12]
  exact h
/-- tables alone change, none of the leader's -/
theorem SK.t (h : SK σ) (s2 : σ'.2 = σ.2) (s0 : σ'.1 0 0 = σ.1 0 0) (s1 : ∀ i q, (i = 2 ∨ i = 3 ∨ i = 4 ∨ i = 7) → σ'.1 i q = σ.1 i q) (s9 : ∀ k, k < 6 → PK σ' k) : SK σ' :=
  ⟨fun p hp => by rw [s0]; exact (h.1 p hp).of (s1 2 p (by decide)) (s1 3 p (by decide)) (s1 4 p (by decide)) (s1 7 p (by decide)) (fun _ n _ f _ _ => by rw [s2]), fun j hj => (h.2.1 j hj).of (by rw [s2]) (by rw [s2]) (by rw [s2]) (by rw [s2]), s9⟩
theorem SK.a (h : SK σ) {k q : Nat} {x : Int32} (h0 : ¬ (k = 0 ∧ q = 0)) (hk : ¬ (k = 2 ∨ k = 3 ∨ k = 4 ∨ k = 7 ∨ k = 9 ∨ k = 12)) : SK (sA σ k q x) :=
  h.t rfl (p2_ne _ _ (fun z => h0 ⟨z.1.symm, z.2.symm⟩)) (fun i _ hi => sA_n (fun z => by omega)) (fun i hi => (h.2.2 i hi).of (sA_n (fun z => by omega)) (sA_n (fun z => by omega)))
/-- logs alone change -/
theorem SK.l (h : SK σ) (s1 : σ'.1 = σ.1) (hz : ∀ p, p < 4 → σ.1 2 p = 0 → ∀ n, n < 5 → ∀ f, 1 ≤ f → f ≤ 4 → σ'.2.1 (5 * p + n) f = σ.2.1 (5 * p + n) f) (hr : ∀ j, j < 20 → RF σ' j) : SK σ' :=
  ⟨fun p hp => by rw [s1]; exact (h.1 p hp).of (by rw [s1]) (by rw [s1]) (by rw [s1]) (by rw [s1]) (fun z n hn f f1 f2 => hz p hp z n hn f f1 f2), hr, fun k hk => (h.2.2 k hk).of (by rw [s1]) (by rw [s1])⟩
/-- one log of a partition that is there -/
theorem SK.l1 (h : SK σ) {n : Nat} (hp : p < 4) (hn : n < 5) (ht : ¬ σ.1 2 p = 0) (s1 : σ'.1 = σ.1) (so : ∀ i, ¬ i = 5 * p + n → σ'.2.1 i = σ.2.1 i ∧ σ'.2.2 i = σ.2.2 i) (hr : RF σ' (5 * p + n)) : SK σ' :=
  h.l s1 (fun q hq z m hm f _ _ => by rw [(so (5 * q + m) (fun e => ht (by rw [show p = q by omega]; exact z))).1]) (fun j hj => by
    by_cases e : j = 5 * p + n
    · rw [e]; exact hr
    · exact (h.2.1 j hj).of (by rw [(so j e).1]) (by rw [(so j e).1]) (by rw [(so j e).1]) (so j e).2)
theorem SK.g (h : SK σ) {j f : Nat} {x : Int32} (hf : f = 5 ∨ f = 6) : SK (sG σ j f x) :=
  h.l rfl (fun p hp z n hn g g1 g2 => sG_o (by omega)) (fun i hi => (h.2.1 i hi).of (sG_o (by omega)) (sG_o (by omega)) (sG_o (by omega)) rfl)
theorem SK.g3 (h : SK σ) {n : Nat} {x : Int32} (hp : p < 4) (hn : n < 5) (ht : ¬ σ.1 2 p = 0) : SK (sG σ (5 * p + n) 3 x) :=
  h.l1 hp hn ht rfl (fun i hi => ⟨sG_n hi, rfl⟩) ((h.2.1 (5 * p + n) (by omega)).of (sG_o (by decide)) (sG_o (by decide)) (sG_o (by decide)) rfl)
theorem SK.two (h : SK σ) {x y : Int32} {f1 f2 : Nat} (h1 : f1 = 5 ∨ f1 = 6) (h2 : f2 = 5 ∨ f2 = 6) : ∀ n, SK (gTwo σ p f1 f2 x y n) := by
  intro n
  induction n with
  | zero => exact h
  | succ n ih => exact (ih.g h1).g h2
/-- the leader of a partition -/
theorem PI.ld (h : PI u σ p) (hl : ¬ σ.1 4 p < 0) : ¬ σ.1 2 p = 0 ∧ ∃ m, m < 5 ∧ σ.1 4 p = nI m ∧ bt (σ.1 7 p) m ∧ bt u m := by
  have ht : ¬ σ.1 2 p = 0 := fun z => hl (h.1 z).1
  rcases (h.2 ht).2.2.1 with z | z
  · exact absurd (show σ.1 4 p < 0 by rw [z]; decide) hl
  · exact ⟨ht, z⟩
theorem oOw_ld (h : oOw σ p = some j) : ¬ σ.1 4 p < 0 := fun z => by
  unfold oOw at h
  rw [if_pos z] at h
  cases h
/-- own: the leader's log -/
theorem SK.ow (h : SK σ) (hp : p < 4) (ho : oOw σ p = some j) : ∃ m, m < 5 ∧ j = 5 * p + m ∧ σ.1 4 p = nI m ∧ ¬ σ.1 2 p = 0 ∧ bt (σ.1 7 p) m ∧ bt (σ.1 0 0) m := by
  obtain ⟨ht, m, hm, e, h1, h2⟩ := (h.1 p hp).ld (oOw_ld ho)
  have := (oOw_c hm e h2).symm.trans ho
  cases this
  exact ⟨m, hm, rfl, e, ht, h1, h2⟩
theorem SK.ri (h : SK σ) (hp : p < 4) : SK (oRi σ p) := by
  cases ho : oOw σ p with
  | none => rw [oRi_no ho]; exact h
  | some j =>
    obtain ⟨m, hm, rfl, _, ht, _⟩ := h.ow hp ho
    rw [oRi_s ho]
    by_cases h1 : oLs σ p 5 = 2147483647
    · rw [if_pos h1]; exact h
    · rw [if_neg h1]
      by_cases h2 : σ.2.1 (5 * p + m) 3 < oLs σ p 5
      · rw [if_pos h2]; exact h.g3 hp hm ht
      · rw [if_neg h2]; exact h
/-- the records' range shrinks -/
theorem RK.sub (h : RK σ j) (hz : σ'.2.2 j = σ.2.2 j) (h1 : ∀ o, zb σ' j ≤ o → o < ze σ' j → zb σ j ≤ o ∧ o < ze σ j) : RK σ' j := fun o h2 h3 => by
  rw [hz]
  exact h o (h1 o h2 h3).1 (h1 o h2 h3).2
/-- a record is appended -/
theorem RK.ad (h : RK σ j) (n0 : 0 ≤ (σ.2.1 j 2).toInt) (n2 : (σ.2.1 j 2).toInt < 2000) {r : Nat → Int32} (hr : (r 1 = 0 ∨ r 1 = 1 ∨ r 1 = 2) ∧ (r 7 = 0 ∨ r 7 = 1) ∧ (r 7 = 1 → r 1 = 0)) : RK (oAd σ j r) j := fun o h1 h2 => by
  have b1 : zb (oAd σ j r) j = zb σ j := by unfold zb; rw [oAd_g (fun z => absurd z.2 (by decide))]
  have b2 : ze (oAd σ j r) j = ze σ j + 1 := by
    unfold ze
    rw [oAd_e, clT, clT, xaddk (k := 1) (by decide) (by omega) (by omega)]
    omega
  rw [b1] at h1; rw [b2] at h2
  by_cases e : o = ze σ j
  · have e2 : (oAd σ j r).2.2 j o = r := by rw [e]; exact oAd_zs
    rw [e2]; exact hr
  · rw [oAd_z (fun z => e z.2)]; exact h o h1 (by omega)
theorem SK.ad (h : SK σ) {n : Nat} (hp : p < 4) (hn : n < 5) (ht : ¬ σ.1 2 p = 0) (hl : LN (σ.2.1 (5 * p + n))) {r : Nat → Int32} (hr : (r 1 = 0 ∨ r 1 = 1 ∨ r 1 = 2) ∧ (r 7 = 0 ∨ r 7 = 1) ∧ (r 7 = 1 → r 1 = 0)) : SK (oAd σ (5 * p + n) r) := by
  refine h.l1 hp hn ht rfl (fun i hi => ⟨p2_na _ _ hi, p2_na _ _ hi⟩) ⟨((h.2.1 _ (by omega)).1).ad (Int.le_trans hl.1 hl.2.1) hl.2.2.2 hr, ?_⟩
  have := (h.2.1 (5 * p + n) (by omega)).2
  rw [oAd_g (fun z => absurd z.2 (by decide)), oAd_e, xaddk (k := 1) (by decide) (by have := hl.1; have := hl.2.1; omega) (by have := hl.2.2.2; omega)]
  omega
theorem LI.ln (h : LI E (σ.2.1 j)) (hE : E < 2000) : LN (σ.2.1 j) := ⟨h.1, h.2.1, h.2.2.1, by have := h.2.2.2.1; omega⟩
end XK
theorem sA_q {σ : SG} {k i p q : Nat} {x : Int32} (h : ¬ (i = k ∧ q = p)) : (sA σ k p x).1 i q = σ.1 i q := p2_ne _ _ h
section XK
variable {u : Int32} {σ σ' : SG} {p j k : Nat} {E : Int}
/-- of one partition all may change, but its logs -/
theorem SK.new (h : SK σ) {P : Nat} (s2 : σ'.2 = σ.2) (s1 : ∀ i q, ¬ ((2 ≤ i ∧ i ≤ 7) ∧ q = P) → σ'.1 i q = σ.1 i q) (hi : PI (σ.1 0 0) σ' P) : SK σ' :=
  ⟨fun q hq => by
    rw [s1 0 0 (by omega)]
    by_cases e : q = P
    · rw [e]; exact hi
    · exact (h.1 q hq).of (s1 2 q (by omega)) (s1 3 q (by omega)) (s1 4 q (by omega)) (s1 7 q (by omega)) (fun _ n _ f _ _ => by rw [s2]), fun j hj => (h.2.1 j hj).of (by rw [s2]) (by rw [s2]) (by rw [s2]) (by rw [s2]), fun k hk => (h.2.2 k hk).of (s1 9 k (by omega)) (s1 12 k (by omega))⟩
theorem B5.and {x y : Int32} (h : B5 x) : B5 (x &&& y) := xu_and h
theorem B5.and' {x y : Int32} (h : B5 y) : B5 (x &&& y) := xu_and' h
theorem B5.m31 (x : Int32) : B5 (x &&& 31) := by
  obtain ⟨j, hj, e⟩ := pk_andE x (m := 31) 5 (by decide)
  exact ⟨j, hj, e⟩
theorem B5.one5 : ∀ m, m < 5 → ∃ u : Nat, u < 32 ∧ (1 : Int32) <<< (nI m &&& 31) = nI u := by decide +kernel
theorem B5.one {m : Nat} (hm : m < 5) : B5 (1 <<< (nI m &&& 31)) := B5.one5 m hm
/-- the least of some bits -/
theorem B5.nz {a : Int32} (h : B5 a) (h0 : ¬ a = 0) : ∃ m, m < 5 ∧ sp_nz a = nI m ∧ bt a m := by
  obtain ⟨h1, h2, h3⟩ := xntz h h0
  obtain ⟨m, hm, e⟩ := vp_in_of (x := sp_nz a) (n := 5) (xin_of h2 h1) (by decide)
  rw [e] at h3
  exact ⟨m, hm, e, h3⟩
theorem B5.lo {a : Int32} (h : B5 a) (h0 : ¬ a = 0) : sp_lo a = sp_nz a := by
  obtain ⟨u, hu, rfl⟩ := h
  exact sp_lo_nz u hu h0
theorem SK.ce (h : SK σ) (hu : B5 (σ.1 0 0)) (p r l : Int32) : SK (qCe σ p r l).1 := by
  unfold qCe
  by_cases h1 : sp_in p.toInt64 0 3 = 0
  · rw [if_pos h1]; exact h
  · rw [if_neg h1]
    by_cases h2 : ¬ σ.1 2 p.toNatClampNeg = 0
    · rw [if_pos h2]; exact h
    · rw [if_neg h2]
      by_cases h3 : sp_in l.toInt64 1 (sp_bc (r &&& 31)).toInt64 = 0
      · rw [if_pos h3]; exact h
      · rw [if_neg h3]
        by_cases h4 : (r &&& 31) &&& σ.1 0 0 = 0
        · rw [if_pos h4]; exact h
        · rw [if_neg h4]
          obtain ⟨m, hm, e, hb⟩ := B5.nz (B5.and' hu) h4
          refine SK.two ?_ (by decide) (by decide) 5
          generalize p.toNatClampNeg = P
          refine h.new (P := P) rfl (fun i q hi => ?_) ⟨fun z => ?_, fun _ => ?_⟩
          · show (sA (sA (sA (sA (sA (sA σ 2 P 1) 3 P (r &&& 31)) 6 P l) 5 P 0) 7 P ((r &&& 31) &&& σ.1 0 0)) 4 P (sp_nz ((r &&& 31) &&& σ.1 0 0))).1 i q = _
            rw [sA_q (by omega), sA_q (by omega), sA_q (by omega), sA_q (by omega), sA_q (by omega), sA_q (by omega)]
          · rw [sA_n (by decide), sA_n (by decide), sA_n (by decide), sA_n (by decide), sA_n (by decide), sA_s] at z
            exact absurd z (by decide)
          · rw [sA_s, sA_n (i := 7) (by decide), sA_s, sA_n (i := 3) (by decide), sA_n (i := 3) (by decide), sA_n (i := 3) (by decide), sA_n (i := 3) (by decide), sA_s]
            exact ⟨⟨B5.and' hu, B5.m31 r⟩, fun k _ z => (bt_and.mp z).1, Or.inr ⟨m, hm, e, hb, (bt_and.mp hb).2⟩, Or.inl (fun k _ z => (bt_and.mp z).2)⟩
/-- who is elected -/
theorem oMay_b {un : Int32} (hi : PI (σ.1 0 0) σ p) (ht : ¬ σ.1 2 p = 0) (h0 : ¬ oMay σ p un = 0) : ∃ m, m < 5 ∧ sp_nz (oMay σ p un) = nI m ∧ bt (σ.1 3 p) m ∧ bt (σ.1 0 0) m ∧ (σ.1 7 p &&& σ.1 0 0 = 0 → ¬ bt (σ.1 7 p) m) ∧ (¬ σ.1 7 p &&& σ.1 0 0 = 0 → bt (σ.1 7 p) m) := by
  obtain ⟨⟨b7, b3⟩, hs, _, _⟩ := hi.2 ht
  unfold oMay at h0 ⊢
  by_cases h1 : σ.1 7 p &&& σ.1 0 0 = 0
  · rw [if_pos h1] at h0 ⊢
    by_cases h2 : un = 0
    · rw [if_pos h2] at h0; exact absurd h1 h0
    · rw [if_neg h2] at h0 ⊢
      obtain ⟨m, hm, e, hb⟩ := B5.nz (B5.and b3) h0
      obtain ⟨c1, c2⟩ := bt_and.mp hb
      exact ⟨m, hm, e, c1, c2, fun _ z => bt_0 m hm (by rw [← h1]; exact bt_and.mpr ⟨z, c2⟩), fun z => absurd h1 z⟩
  · rw [if_neg h1] at h0 ⊢
    obtain ⟨m, hm, e, hb⟩ := B5.nz (B5.and b7) h0
    obtain ⟨c1, c2⟩ := bt_and.mp hb
    exact ⟨m, hm, e, hs m hm c1, c2, fun z => absurd z h1, fun _ => c1⟩
/-- behind an election: the partition's tables -/
theorem oEl_PI {un : Int32} (hi : PI (σ.1 0 0) σ p) (ht : ¬ σ.1 2 p = 0) {m : Nat} (hm : m < 5) (h3 : bt (σ.1 3 p) m) (hup : bt (σ.1 0 0) m) (hx : σ'.1 2 p = σ.1 2 p ∧ σ'.1 3 p = σ.1 3 p ∧ σ'.1 4 p = nI m ∧ σ'.1 7 p = (if bt (σ.1 7 p) m then σ.1 7 p else 1 <<< (nI m &&& 31))) : PI (σ.1 0 0) σ' p := by
  obtain ⟨⟨b7, b3⟩, hs, _, h8⟩ := hi.2 ht
  refine ⟨fun z => absurd (hx.1.symm.trans z) ht, fun _ => ?_⟩
  rw [hx.2.1, hx.2.2.1, hx.2.2.2]
  by_cases q : bt (σ.1 7 p) m
  · rw [if_pos q]
    exact ⟨⟨b7, b3⟩, hs, Or.inr ⟨m, hm, rfl, q, hup⟩, h8⟩
  · rw [if_neg q]
    exact ⟨⟨B5.one hm, b3⟩, fun k hk z => by rw [(bt_one hk hm).mp z]; exact h3, Or.inr ⟨m, hm, rfl, (bt_one hm hm).mpr rfl, hup⟩, Or.inr ⟨m, hm, fun k hk z => (bt_one hk hm).mp z⟩⟩
theorem oElx {m : Nat} (s : Int32) : (if (s >>> (nI m &&& 31)) &&& 1 = 0 then sA σ 7 p (1 <<< (nI m &&& 31)) else σ) = if bt s m then σ else sA σ 7 p (1 <<< (nI m &&& 31)) := by
  by_cases q : bt s m
  · rw [if_pos q, if_neg (bt_isr.mpr q)]
  · rw [if_neg q, if_pos (bit_n1 q)]
theorem SK.el (h : SK σ) (p un : Int32) : SK (qEl σ p un).1 := by
  unfold qEl
  by_cases h1 : sp_it (σ.1 2) p = 0
  · rw [if_pos h1]; exact h
  · rw [if_neg h1]
    obtain ⟨hp, ht⟩ := sp_it1 h1
    have hp := vp_lt hp
    by_cases h2 : oMay σ p.toNatClampNeg un = 0
    · rw [if_pos h2]; exact h
    · rw [if_neg h2]
      generalize p.toNatClampNeg = P at hp ht h2 ⊢
      obtain ⟨m, hm, e, b3, bu, _, _⟩ := oMay_b (h.1 P hp) ht h2
      show SK (oEl σ P (sp_nz (oMay σ P un)))
      rw [e]
      unfold oEl
      rw [oElx]
      refine SK.ri (SK.two ?_ (by decide) (by decide) 5) hp
      by_cases q : bt (σ.1 7 P) m
      · rw [if_pos q]
        refine h.new (P := P) rfl (fun i q' hi => by rw [sA_q (by omega), sA_q (by omega)]) (oEl_PI (un := un) (h.1 P hp) ht hm b3 bu ⟨?_, ?_, ?_, ?_⟩)
        · rw [sA_n (by decide), sA_n (by decide)]
        · rw [sA_n (by decide), sA_n (by decide)]
        · rw [sA_n (by decide), sA_s]
        · rw [sA_n (by decide), sA_n (by decide), if_pos q]
      · rw [if_neg q]
        refine h.new (P := P) rfl (fun i q' hi => by rw [sA_q (by omega), sA_q (by omega), sA_q (by omega)]) (oEl_PI (un := un) (h.1 P hp) ht hm b3 bu ⟨?_, ?_, ?_, ?_⟩)
        · rw [sA_n (by decide), sA_n (by decide), sA_n (by decide)]
        · rw [sA_n (by decide), sA_n (by decide), sA_n (by decide)]
        · rw [sA_n (by decide), sA_s]
        · rw [sA_n (by decide), sA_n (by decide), sA_s, if_neg q]
theorem SK.m9 (h : SK σ) {k : Nat} (s2 : σ'.2 = σ.2) (s1 : ∀ i q, ¬ ((i = 9 ∨ i = 11 ∨ i = 12 ∨ i = 8 ∨ i = 10) ∧ q = k) → σ'.1 i q = σ.1 i q) (hk : PK σ' k) : SK σ' :=
  h.t s2 (s1 0 0 (by omega)) (fun i q hi => s1 i q (by omega)) (fun i hi => by
    by_cases e : i = k
    · rw [e]; exact hk
    · exact (h.2.2 i hi).of (s1 9 i (by omega)) (s1 12 i (by omega)))
theorem SK.rg (h : SK σ) (k : Int32) : SK (qRg σ k).1 := by
  unfold qRg
  by_cases h1 : sp_in k.toInt64 0 5 = 0
  · rw [if_pos h1]; exact h
  · rw [if_neg h1]
    refine SK.a ?_ (by omega) (by decide)
    by_cases h2 : σ.1 9 k.toNatClampNeg = 1
    · rw [if_pos h2]
      refine h.m9 (k := k.toNatClampNeg) rfl (fun i q hi => by rw [sA_q (by omega), sA_q (by omega), sA_q (by omega)]) (fun _ => Or.inr ?_)
      rw [sA_s]
    · rw [if_neg h2]; exact h
theorem SK.bg (h : SK σ) (hd : Int32) : SK (qBg σ hd).1 := by
  unfold qBg
  generalize (hd - hd / 8 * 8).toNatClampNeg = K
  by_cases h1 : sp_ih hd = 0
  · rw [if_pos h1]; exact h
  · rw [if_neg h1]
    by_cases h2 : ¬ σ.1 8 K = hd / 8
    · rw [if_pos h2]; exact h
    · rw [if_neg h2]
      by_cases h3 : ¬ σ.1 9 K = 0
      · rw [if_pos h3]; exact h
      · rw [if_neg h3]
        refine h.m9 (k := K) rfl (fun i q hi => by rw [sA_q (by omega), sA_q (by omega)]) (fun z => ?_)
        rw [sA_n (by decide), sA_s] at z
        exact absurd z (by decide)
theorem SK.fi (h : SK σ) (hd cm : Int32) : SK (qFi σ hd cm).1 := by
  unfold qFi
  generalize (hd - hd / 8 * 8).toNatClampNeg = K
  by_cases h1 : sp_ih hd = 0
  · rw [if_pos h1]; exact h
  · rw [if_neg h1]
    by_cases h2 : ¬ σ.1 8 K = hd / 8
    · rw [if_pos h2]; exact h
    · rw [if_neg h2]
      by_cases h3 : ¬ σ.1 9 K = 1
      · rw [if_pos h3]; exact h
      · rw [if_neg h3]
        refine h.m9 (k := K) rfl (fun i q hi => by rw [sA_q (by omega), sA_q (by omega), sA_q (by omega)]) (fun _ => ?_)
        rw [sA_s]
        by_cases c : cm = 0
        · rw [if_pos c]; exact Or.inr rfl
        · rw [if_neg c]; exact Or.inl rfl
theorem SK.opr (h : SK σ) {n : Nat} (hp : p < 4) (hn : n < 5) (ht : ¬ σ.1 2 p = 0) (hl : LN (σ.2.1 (5 * p + n))) {k g sq ke va : Int32} : SK (oPr σ p (5 * p + n) k g sq ke va) := by
  unfold oPr
  refine SK.ri ?_ hp
  by_cases q : ¬ k < 0 ∧ σ.1 9 k.toNatClampNeg = 1
  · rw [if_pos q]
    exact (h.ad hp hn ht hl (by refine ⟨Or.inl rfl, Or.inr rfl, fun _ => rfl⟩)).a (by omega) (by decide)
  · rw [if_neg q]
    exact h.ad hp hn ht hl (by refine ⟨Or.inl rfl, Or.inl rfl, fun _ => rfl⟩)
theorem SK.pr (h : SK σ) (hA : LA E σ) (hE : E < 2000) (p hd sq ke va al : Int32) : SK (qPr σ p hd sq ke va al).1 := by
  unfold qPr
  by_cases h1 : sp_it (σ.1 2) p = 0
  · rw [if_pos h1]; exact h
  · rw [if_neg h1]
    have hp := vp_lt (sp_it1 h1).1
    generalize p.toNatClampNeg = P at hp ⊢
    by_cases h2 : ¬ hd = -1 ∧ sp_ih hd = 0
    · rw [if_pos h2]; exact h
    · rw [if_neg h2]
      cases ho : oOw σ P with
      | none => exact h
      | some j =>
        obtain ⟨m, hm, rfl, _, ht, _⟩ := h.ow hp ho
        have hl := (hA (5 * P + m) (by omega)).ln hE
        show SK (if _ then _ else _ : SG × Int32).1
        by_cases h3 : hd = -1
        · rw [if_pos h3]
          split
          · exact h
          · split
            · exact h
            · exact h.opr hp hm ht hl
        · rw [if_neg h3]
          split
          · exact h
          · split
            · exact h
            · split
              · exact h
              · split
                · split
                  · split
                    · exact h
                    · exact h.opr hp hm ht hl
                  · exact h
                · split
                  · split
                    · exact h
                    · exact h.opr hp hm ht hl
                  · exact h
theorem SK.se (h : SK σ) {o : Nat} : ∀ n, SK (oSe σ j o n) := by
  intro n
  induction n with
  | zero => exact h.a (by omega) (by decide)
  | succ n ih => exact ih.a (by omega) (by decide)
theorem SK.co (h : SK σ) (p o cm : Int32) : SK (qCo σ p o cm).1 := by
  unfold qCo
  by_cases h1 : sp_it (σ.1 2) p = 0
  · rw [if_pos h1]; exact h
  · rw [if_neg h1]
    cases oOw σ p.toNatClampNeg with
    | none => exact h
    | some j =>
      show SK (if _ then _ else _ : SG × Int32).1
      split
      · exact h
      · split
        · exact h
        · exact h.se 5
theorem SK.mb (h : SK σ) (g m : Int32) : SK (qMb σ g m).1 := by
  unfold qMb
  split
  · exact h
  · split
    · exact h
    · exact (h.a (by omega) (by decide)).a (by omega) (by decide)
theorem SK.fl (h : SK σ) (n p : Int32) : SK (qFl σ n p).1 := by
  unfold qFl
  by_cases h1 : sp_ir (σ.1 2) (σ.1 3) n p = 0
  · rw [if_pos h1]; exact h
  · rw [if_neg h1]
    obtain ⟨⟨hp, ht⟩, hn, _⟩ := sp_ir1 h1
    by_cases h2 : sp_iu (σ.1 0 0) n = 0
    · rw [if_pos h2]; exact h
    · rw [if_neg h2]
      have hp := vp_lt hp
      have hn := vp_lt hn
      refine h.l1 hp hn ht rfl (fun i hi => ⟨sG_n hi, rfl⟩) ⟨?_, ?_⟩
      · exact ((h.2.1 (5 * p.toNatClampNeg + n.toNatClampNeg) (by omega)).1).sub rfl (fun o h1 h2 => by rw [sG_zb (fun z => absurd z.2 (by decide))] at h1; rw [sG_ze (fun z => absurd z.2 (by decide))] at h2; exact ⟨h1, h2⟩)
      · rw [sG_s, sG_o (by decide)]; exact Int.le_refl _
theorem SK.rsn (h : SK σ) {n : Nat} : ∀ k, SK (oRs σ n k) := by
  intro k
  induction k with
  | zero => exact h
  | succ k ih => exact ih.g (by decide)
/-- who is up: one more -/
theorem PI.up (h : PI u σ p) {u' : Int32} (hu : ∀ m, m < 5 → bt u m → bt u' m) : PI u' σ p :=
  ⟨h.1, fun ht => by
    obtain ⟨a, b, c, d⟩ := h.2 ht
    refine ⟨a, b, ?_, ?_⟩
    · rcases c with c | ⟨m, hm, e, c1, c2⟩
      · exact Or.inl c
      · exact Or.inr ⟨m, hm, e, c1, hu m hm c2⟩
    · rcases d with d | d
      · exact Or.inl (fun m hm z => hu m hm (d m hm z))
      · exact Or.inr d⟩
theorem SK.rs (h : SK σ) (n : Int32) : SK (qRs σ n).1 := by
  unfold qRs
  split
  · exact h
  · split
    · exact h
    · rename_i h1 h2
      refine SK.rsn ?_ 4
      refine ⟨fun p hp => ?_, fun j hj => (h.2.1 j hj).of rfl rfl rfl rfl, fun k hk => (h.2.2 k hk).of (sA_n (by decide)) (sA_n (by decide))⟩
      rw [sA_s]
      exact ((h.1 p hp).up (fun m hm z => bt_or.mpr (Or.inl z))).of (sA_n (by decide)) (sA_n (by decide)) (sA_n (by decide)) (sA_n (by decide)) (fun _ _ _ _ _ _ => rfl)
end XK
section XK
variable {u : Int32} {σ σ' : SG} {p j k : Nat} {E : Int}
/-- what raiseHw needs, out of what holds of a partition -/
theorem PI.rh (h : PI (σ.1 0 0) σ p) (ht : ¬ σ.1 2 p = 0) (hA : ∀ m, m < 5 → LN (σ.2.1 (5 * p + m))) : RHp (kxo σ) σ p := by
  obtain ⟨_, hs, hl, hu⟩ := h.2 ht
  refine ⟨?_, fun m hm z => ⟨ht, hs m hm z⟩, fun hl0 m hm z hne => ?_, hA⟩
  · rcases hl with z | ⟨m, hm, e, h1, h2⟩
    · exact Or.inl (by rw [z]; decide)
    · exact Or.inr ⟨m, hm, e, ⟨ht, hs m hm h1⟩, h1, h2⟩
  · obtain ⟨_, m0, hm0, e0, c1, c2⟩ := h.ld hl0
    have hup : bt (σ.1 0 0) m := by
      rcases hu with y | ⟨a, ha, y⟩
      · exact y m hm z
      · rw [y m hm z, ← y m0 hm0 c1]; exact c2
    unfold kxo
    rw [show (5 * p + m) / 5 = p by omega, show (5 * p + m) % 5 = m by omega]
    exact fun y => y.elim hne (fun y => y hup)
theorem kxo_c (h0 : σ'.1 0 0 = σ.1 0 0) (h4 : ∀ q, σ'.1 4 q = σ.1 4 q) : kxo σ' = kxo σ := by
  funext i
  unfold kxo
  rw [h0, h4]
/-- those in step: some go, not the leader -/
theorem PI.sub (h : PI u σ p) (h2 : σ'.1 2 p = σ.1 2 p) (h3 : σ'.1 3 p = σ.1 3 p) (h4 : σ'.1 4 p = σ.1 4 p) (hb : B5 (σ.1 7 p) → B5 (σ'.1 7 p)) (h7 : ∀ m, m < 5 → bt (σ'.1 7 p) m → bt (σ.1 7 p) m) (hl : ∀ m, m < 5 → σ.1 4 p = nI m → bt (σ.1 7 p) m → bt (σ'.1 7 p) m) (hz : σ'.2 = σ.2) : PI u σ' p := by
  unfold PI
  rw [h2, h3, h4, hz]
  refine ⟨h.1, fun ht => ?_⟩
  obtain ⟨⟨a1, a2⟩, b, c, d⟩ := h.2 ht
  refine ⟨⟨hb a1, a2⟩, fun m hm z => b m hm (h7 m hm z), ?_, ?_⟩
  · rcases c with c | ⟨m, hm, e, c1, c2⟩
    · exact Or.inl c
    · exact Or.inr ⟨m, hm, e, hl m hm e c1, c2⟩
  · rcases d with d | ⟨m, hm, d⟩
    · exact Or.inl (fun m hm z => d m hm (h7 m hm z))
    · exact Or.inr ⟨m, hm, fun k hk z => d k hk (h7 k hk z)⟩
theorem oT1_l {s : SG × Int32} {n m : Nat} (hn : n < 5) (hm : m < 5) (e : s.1.1 4 p = nI m) (hb : bt (s.1.1 7 p) m) : bt ((oT1 s p n).1.1 7 p) m := by
  by_cases q : n = m
  · rw [q, oT1_ld e.symm]; exact hb
  · unfold oT1
    split
    · exact hb
    · split
      · exact hb
      · split
        · show bt ((sA s.1 7 p (s.1.1 7 p &&& ((1 <<< (nI n &&& 31)) ^^^ (-1)))).1 7 p) m
          rw [sA_s]
          exact (bt_clr hm hn).mpr ⟨hb, fun z => q z.symm⟩
        · exact hb
theorem oT1_b {s : SG × Int32} {n : Nat} (hb : B5 (s.1.1 7 p)) : B5 ((oT1 s p n).1.1 7 p) := by
  unfold oT1
  split
  · exact hb
  · split
    · exact hb
    · split
      · show B5 ((sA s.1 7 p (s.1.1 7 p &&& ((1 <<< (nI n &&& 31)) ^^^ (-1)))).1 7 p)
        rw [sA_s]
        exact hb.and
      · exact hb
theorem oT2_l {s : SG × Int32} {m : Nat} (hm : m < 5) (e : s.1.1 4 p = nI m) (hb : bt (s.1.1 7 p) m) : ∀ n, n ≤ 5 → bt ((oT2 s p n).1.1 7 p) m := by
  intro n
  induction n with
  | zero => exact fun _ => hb
  | succ n ih => exact fun h => oT1_l (by omega) hm (((oT2_fr s p n).2.1 4 p (by omega)).trans e) (ih (by omega))
theorem oT2_b {s : SG × Int32} (hb : B5 (s.1.1 7 p)) : ∀ n, B5 ((oT2 s p n).1.1 7 p) := by
  intro n
  induction n with
  | zero => exact hb
  | succ n ih => exact oT1_b ih
theorem oT2_PI {s : SG × Int32} (h : PI u s.1 p) : PI u (oT2 s p 5).1 p := by
  obtain ⟨a, b, c⟩ := oT2_fr s p 5
  exact h.sub (b 2 p (by omega)) (b 3 p (by omega)) (b 4 p (by omega)) (fun z => oT2_b z 5) (fun m _ z => c m z) (fun m hm e z => oT2_l hm e z 5 (Nat.le_refl _)) a
theorem SK.t2 {s : SG × Int32} (h : SK s.1) (hp : p < 4) : SK (oT2 s p 5).1 := by
  obtain ⟨a, b, c⟩ := oT2_fr s p 5
  exact h.new (P := p) a (fun i q hi => b i q (by omega)) (oT2_PI (h.1 p hp))
theorem SK.t3 {s : SG × Int32} (h : SK s.1) (hp : p < 4) : SK (oT3 s p).1 := by
  unfold oT3
  split
  · exact h
  · split
    · exact h
    · exact (h.t2 hp).ri hp
theorem SK.t4 {s : SG × Int32} (h : SK s.1) : ∀ k, k ≤ 4 → SK (oT4 s k).1 := by
  intro k
  induction k with
  | zero => exact fun _ => h
  | succ k ih => exact fun hk => (ih (by omega)).t3 (by omega)
theorem SK.tk (h : SK σ) (n : Int32) : SK (qTk σ n).1 := by
  unfold qTk
  split
  · exact h
  · exact SK.t4 (s := (sA σ 0 1 (σ.1 0 1 + n), 0)) (h.a (by omega) (by decide)) 4 (Nat.le_refl _)
/-- settle: one partition -/
theorem oS1_c (h : SK σ) (hp : p < 4) : oS1 σ k p = σ ∨ ∃ m, m < 5 ∧ ¬ σ.1 2 p = 0 ∧ σ.1 4 p = nI m ∧ (σ.2.1 (5 * p + m) 2 - σ.2.1 (5 * p + m) 1 < 60) ∧ oS1 σ k p = oRi (sA (oAd σ (5 * p + m) (r8 (σ.1 5 p) (σ.1 12 k) (nI k) (σ.1 11 k) (-1) 0 0 0)) 10 k (σ.1 10 k &&& ((1 <<< (nI p &&& 31)) ^^^ (-1)))) p := by
  unfold oS1
  by_cases h1 : (σ.1 10 k >>> (nI p &&& 31)) &&& 1 = 0
  · rw [if_pos h1]; exact Or.inl rfl
  · rw [if_neg h1]
    cases ho : oOw σ p with
    | none => exact Or.inl rfl
    | some j =>
      obtain ⟨m, hm, rfl, e, ht, _⟩ := h.ow hp ho
      by_cases h2 : σ.2.1 (5 * p + m) 2 - σ.2.1 (5 * p + m) 1 < 60
      · exact Or.inr ⟨m, hm, ht, e, h2, if_pos h2⟩
      · exact Or.inl (if_neg h2)
/-- what a raise leaves: the other partitions' logs -/
theorem oRi_o (h : SK σ) (hp : p < 4) {i : Nat} (hi : ¬ i / 5 = p) : (oRi σ p).2.1 i = σ.2.1 i := by
  cases ho : oOw σ p with
  | none => rw [oRi_no ho]
  | some j =>
    obtain ⟨m, hm, rfl, _⟩ := h.ow hp ho
    rw [oRi_s ho]
    by_cases h1 : oLs σ p 5 = 2147483647
    · rw [if_pos h1]
    · rw [if_neg h1]
      by_cases h2 : σ.2.1 (5 * p + m) 3 < oLs σ p 5
      · rw [if_pos h2]; exact sG_n (by omega)
      · rw [if_neg h2]
theorem oS1_mid (h : SK σ) (hp : p < 4) (h2 : PK σ k) (h9 : σ.1 9 k = 2) {m : Nat} (hm : m < 5) (ht : ¬ σ.1 2 p = 0) (hl : LN (σ.2.1 (5 * p + m))) {x : Int32} : SK (sA (oAd σ (5 * p + m) (r8 (σ.1 5 p) (σ.1 12 k) (nI k) (σ.1 11 k) (-1) 0 0 0)) 10 k x) := by
  refine (h.ad hp hm ht hl ⟨?_, Or.inl rfl, fun z => absurd (show (0 : Int32) = 1 from z) (by decide)⟩).a (by omega) (by decide)
  rcases h2 h9 with e | e
  · exact Or.inr (Or.inl e)
  · exact Or.inr (Or.inr e)
theorem oSn_k (h : SK σ) (hA : LA E σ) (hE : E < 2000) (hk : k < 6) (h9 : σ.1 9 k = 2) : ∀ n, n ≤ 4 → SK (oSn σ k n) ∧ (∀ i q, ¬ (i = 10 ∧ q = k) → (oSn σ k n).1 i q = σ.1 i q) ∧ ∀ q m, n ≤ q → q < 4 → m < 5 → (oSn σ k n).2.1 (5 * q + m) = σ.2.1 (5 * q + m) := by
  intro n
  induction n with
  | zero => exact fun _ => ⟨h, fun _ _ _ => rfl, fun _ _ _ _ _ => rfl⟩
  | succ n ih =>
    intro hn
    obtain ⟨a, b, c⟩ := ih (by omega)
    show SK (oS1 (oSn σ k n) k n) ∧ (∀ i q, ¬ (i = 10 ∧ q = k) → (oS1 (oSn σ k n) k n).1 i q = σ.1 i q) ∧ ∀ q m, n + 1 ≤ q → q < 4 → m < 5 → (oS1 (oSn σ k n) k n).2.1 (5 * q + m) = σ.2.1 (5 * q + m)
    rcases oS1_c (k := k) a (p := n) (by omega) with e | ⟨m, hm, ht, _, _, e⟩
    · rw [e]; exact ⟨a, b, fun q m' h1 h2 h3 => c q m' (by omega) h2 h3⟩
    · rw [e]
      have hl : LN ((oSn σ k n).2.1 (5 * n + m)) := by rw [c n m (Nat.le_refl _) (by omega) hm]; exact (hA _ (by omega)).ln hE
      have hm1 := oS1_mid (k := k) (x := (oSn σ k n).1 10 k &&& ((1 <<< (nI n &&& 31)) ^^^ (-1))) a (p := n) (by omega) (a.2.2 k hk) ((b 9 k (by omega)).trans h9) hm ht hl
      refine ⟨hm1.ri (by omega), fun i q hi => ?_, fun q m' h1 h2 h3 => ?_⟩
      · rw [oRi_1, sA_q hi, oAd_1]; exact b i q hi
      · rw [oRi_o hm1 (by omega) (by omega), sA_2]
        show (oAd (oSn σ k n) (5 * n + m) _).2.1 (5 * q + m') = _
        have e3 : ∀ r : Nat → Int32, (oAd (oSn σ k n) (5 * n + m) r).2.1 (5 * q + m') = (oSn σ k n).2.1 (5 * q + m') := fun r => p2_na _ _ (by omega)
        rw [e3]; exact c q m' (by omega) h2 h3
theorem SK.st (h : SK σ) (hA : LA E σ) (hE : E < 2000) (k : Int32) : SK (qSt σ k).1 := by
  unfold qSt
  by_cases h1 : sp_in k.toInt64 0 5 = 0
  · rw [if_pos h1]; exact h
  · rw [if_neg h1]
    have hk : k.toNatClampNeg < 6 := vp_lt (xin_sp h1 (by decide))
    by_cases h2 : ¬ σ.1 9 k.toNatClampNeg = 2
    · rw [if_pos h2]; exact h
    · rw [if_neg h2]
      obtain ⟨a, b, _⟩ := oSn_k h hA hE hk (Classical.not_not.mp h2) 4 (Nat.le_refl _)
      show SK (if _ then _ else _ : SG)
      split
      · refine a.m9 (k := k.toNatClampNeg) rfl (fun i q hi => sA_q (by omega)) (fun z => ?_)
        rw [sA_s] at z
        exact absurd z (by decide)
      · exact a
theorem SK.tr (h : SK σ) (hA : LA E σ) (p o : Int32) : SK (qTr σ p o).1 := by
  unfold qTr
  by_cases h1 : sp_it (σ.1 2) p = 0
  · rw [if_pos h1]; exact h
  · rw [if_neg h1]
    have hp := vp_lt (sp_it1 h1).1
    generalize p.toNatClampNeg = P at hp ⊢
    cases ho : oOw σ P with
    | none => exact h
    | some j =>
      obtain ⟨m, hm, rfl, _, ht, _⟩ := h.ow hp ho
      show SK (if _ then _ else _ : SG × Int32).1
      by_cases h2 : sp_in o.toInt64 (σ.2.1 (5 * P + m) 1).toInt64 (σ.2.1 (5 * P + m) 3).toInt64 = 0
      · rw [if_pos h2]; exact h
      · rw [if_neg h2]
        have h3 := (not_congr (sp_in_0 _ _ _)).mp h2
        rw [Int32.toInt_toInt64, Int32.toInt_toInt64] at h3
        obtain ⟨n0, n1, n2, n3, n4, n5⟩ := hA (5 * P + m) (by omega)
        have hf := (h.2.1 (5 * P + m) (by omega)).2
        have hr := (h.2.1 (5 * P + m) (by omega)).1
        show SK (sG (oFr σ (5 * P + m) o) (5 * P + m) 4 _)
        have e : oFr σ (5 * P + m) o = sG σ (5 * P + m) 1 o := by
          unfold oFr
          by_cases q1 : o ≤ σ.2.1 (5 * P + m) 1
          · rw [if_pos q1, show o = σ.2.1 (5 * P + m) 1 by rw [xk_eq]; rw [xk_le] at q1; omega, sG_self]
          · rw [if_neg q1]
            by_cases q2 : σ.2.1 (5 * P + m) 2 ≤ o
            · rw [if_pos q2, sG_comm (by decide), show sG σ (5 * P + m) 2 o = σ by rw [show o = σ.2.1 (5 * P + m) 2 by rw [xk_eq]; rw [xk_le] at q2; omega, sG_self]]
            · rw [if_neg q2]
        rw [e]
        refine h.l1 hp hm ht rfl (fun i hi => ⟨by rw [sG_n hi, sG_n hi], rfl⟩) ⟨hr.sub rfl (fun o' o1 o2 => ?_), ?_⟩
        · rw [sG_zb (fun z => absurd z.2 (by decide)), sG_zbs] at o1
          rw [sG_ze (fun z => absurd z.2 (by decide)), sG_ze (fun z => absurd z.2 (by decide))] at o2
          have := zb_le (σ := σ) (j := 5 * P + m) (y := o) (by omega)
          exact ⟨by omega, o2⟩
        · rw [sG_s, sG_o (g := 2) (f := 4) (by decide), sG_o (g := 4) (f := 1) (by decide), sG_s, sG_o (g := 2) (f := 1) (by decide), show imx (σ.2.1 (5 * P + m) 4) o = if σ.2.1 (5 * P + m) 4 < o then o else σ.2.1 (5 * P + m) 4 from rfl, xmax_t (x := σ.2.1 (5 * P + m) 4) (y := o) rfl]
          omega
end XK
section XK
variable {u u' : Int32} {σ σ' τ : SG} {p j k n : Nat} {E : Int}
theorem RHp.mono {kx kx' : Nat → Prop} (h : RHp kx σ p) (hk : ¬ σ.1 4 p < 0 → ∀ m, m < 5 → kx' (5 * p + m) → kx (5 * p + m)) : RHp kx' σ p :=
  ⟨h.1, h.2.1, fun z m hm h1 h2 h3 => h.2.2.1 z m hm h1 h2 (hk z m hm h3), h.2.2.2⟩
/-- a node is down that has no log of the partition -/
theorem PI.dn (h : PI u σ p) (hu : ∀ m, m < 5 → (bt u' m ↔ bt u m ∧ ¬ m = n)) (hb : ¬ σ.1 2 p = 0 → ¬ bt (σ.1 3 p) n) : PI u' σ p := by
  refine ⟨h.1, fun ht => ?_⟩
  obtain ⟨a, b, c, d⟩ := h.2 ht
  have nn : ∀ m, m < 5 → bt (σ.1 7 p) m → ¬ m = n := fun m hm z e => hb ht (e ▸ b m hm z)
  refine ⟨a, b, ?_, ?_⟩
  · rcases c with c | ⟨m, hm, e, c1, c2⟩
    · exact Or.inl c
    · exact Or.inr ⟨m, hm, e, c1, (hu m hm).mpr ⟨c2, nn m hm c1⟩⟩
  · rcases d with d | d
    · exact Or.inl (fun m hm z => (hu m hm).mpr ⟨d m hm z, nn m hm z⟩)
    · exact Or.inr d
/-- a node is down that has one -/
theorem PI.ls (h : PI u σ p) (hn : n < 5) (hu : ∀ m, m < 5 → (bt u' m ↔ bt u m ∧ ¬ m = n)) (ht : ¬ σ.1 2 p = 0) (h2 : σ'.1 2 p = σ.1 2 p) (h3 : σ'.1 3 p = σ.1 3 p) (h4 : σ'.1 4 p = if σ.1 4 p = nI n then -1 else σ.1 4 p) (h7 : σ'.1 7 p = if σ.1 7 p &&& ((1 <<< (nI n &&& 31)) ^^^ (-1)) = 0 then σ.1 7 p else σ.1 7 p &&& ((1 <<< (nI n &&& 31)) ^^^ (-1))) : PI u' σ' p := by
  refine ⟨fun z => absurd (h2.symm.trans z) ht, fun _ => ?_⟩
  rw [h3, h4, h7]
  obtain ⟨⟨a1, a2⟩, b, c, d⟩ := h.2 ht
  have hm1 : σ.1 4 p = -1 → (if σ.1 4 p = nI n then -1 else σ.1 4 p) = (-1 : Int32) := fun z => by
    by_cases q : σ.1 4 p = nI n
    · rw [if_pos q]
    · rw [if_neg q]; exact z
  by_cases q : σ.1 7 p &&& ((1 <<< (nI n &&& 31)) ^^^ (-1)) = 0
  · rw [if_pos q]
    have hs : ∀ m, m < 5 → bt (σ.1 7 p) m → m = n := fun m hm z => by
      by_cases e : m = n
      · exact e
      · exact absurd (by rw [← q]; exact (bt_clr hm hn).mpr ⟨z, e⟩) (bt_0 m hm)
    refine ⟨⟨a1, a2⟩, b, Or.inl ?_, Or.inr ⟨n, hn, hs⟩⟩
    rcases c with c | ⟨m, hm, e, c1, c2⟩
    · exact hm1 c
    · rw [if_pos (by rw [e, hs m hm c1])]
  · rw [if_neg q]
    refine ⟨⟨a1.and, a2⟩, fun m hm z => b m hm (bt_and.mp z).1, ?_, ?_⟩
    · rcases c with c | ⟨m, hm, e, c1, c2⟩
      · exact Or.inl (hm1 c)
      · by_cases e2 : m = n
        · exact Or.inl (if_pos (by rw [e, e2]))
        · exact Or.inr ⟨m, hm, by rw [if_neg (fun z => e2 (nI_inj5 hm hn (e.symm.trans z)))]; exact e, (bt_clr hm hn).mpr ⟨c1, e2⟩, (hu m hm).mpr ⟨c2, e2⟩⟩
    · rcases d with d | ⟨m, hm, d⟩
      · exact Or.inl (fun m hm z => (hu m hm).mpr ⟨d m hm ((bt_clr hm hn).mp z).1, ((bt_clr hm hn).mp z).2⟩)
      · exact Or.inr ⟨m, hm, fun k hk z => d k hk ((bt_clr hk hn).mp z).1⟩
theorem oC2_t {x : Int32} : (∀ i q, ¬ (i = 4 ∧ q = p) → (oC2 σ p x).1 i q = σ.1 i q) ∧ (oC2 σ p x).1 4 p = (if σ.1 4 p = x then -1 else σ.1 4 p) ∧ (oC2 σ p x).2 = σ.2 := by
  unfold oC2
  by_cases q : σ.1 4 p = x
  · rw [if_pos q, if_pos q]; exact ⟨fun i q h => sA_q h, sA_s, rfl⟩
  · rw [if_neg q, if_neg q]; exact ⟨fun _ _ _ => rfl, rfl, rfl⟩
theorem oC3_t {x : Int32} : (∀ i q, ¬ (i = 7 ∧ q = p) → (oC3 σ p x).1 i q = σ.1 i q) ∧ (oC3 σ p x).1 7 p = (if σ.1 7 p &&& ((1 <<< (x &&& 31)) ^^^ (-1)) = 0 then σ.1 7 p else σ.1 7 p &&& ((1 <<< (x &&& 31)) ^^^ (-1))) ∧ (oC3 σ p x).2 = σ.2 := by
  unfold oC3
  by_cases q : σ.1 7 p &&& ((1 <<< (x &&& 31)) ^^^ (-1)) = 0
  · rw [if_pos q, if_pos q]; exact ⟨fun _ _ _ => rfl, rfl, rfl⟩
  · rw [if_neg q, if_neg q]; exact ⟨fun i q h => sA_q h, sA_s, rfl⟩
/-- crash: one partition before its raise -/
abbrev oC9 (σ : SG) (p n : Nat) (kp : Int32) : SG := oC3 (oC2 (oC1 σ (5 * p + n) kp) p (nI n)) p (nI n)
theorem oC9_t {kp : Int32} : (∀ i q, ¬ ((i = 4 ∨ i = 7) ∧ q = p) → (oC9 σ p n kp).1 i q = σ.1 i q) ∧ (oC9 σ p n kp).2 = (oC1 σ (5 * p + n) kp).2 := by
  obtain ⟨a, _, c⟩ := oC3_t (σ := oC2 (oC1 σ (5 * p + n) kp) p (nI n)) (p := p) (x := nI n)
  obtain ⟨d, _, f⟩ := oC2_t (σ := oC1 σ (5 * p + n) kp) (p := p) (x := nI n)
  exact ⟨fun i q h => (a i q (by omega)).trans (d i q (by omega)), c.trans f⟩
theorem PI.c9 {kp : Int32} (h : PI u σ p) (hn : n < 5) (hu : ∀ m, m < 5 → (bt u' m ↔ bt u m ∧ ¬ m = n)) (ht : ¬ σ.1 2 p = 0) : PI u' (oC9 σ p n kp) p := by
  obtain ⟨a, b, c⟩ := oC3_t (σ := oC2 (oC1 σ (5 * p + n) kp) p (nI n)) (p := p) (x := nI n)
  obtain ⟨d, e, f⟩ := oC2_t (σ := oC1 σ (5 * p + n) kp) (p := p) (x := nI n)
  refine h.ls hn hu ht ((oC9_t).1 2 p (by omega)) ((oC9_t).1 3 p (by omega)) ((a 4 p (by omega)).trans e) ?_
  rw [b, d 7 p (by omega)]
  rfl
theorem oC1_e {kp : Int32} (h0 : 0 ≤ (σ.2.1 j 4).toInt) (hk : 0 ≤ kp.toInt) : ((oC1 σ j kp).2.1 j 2).toInt = min (σ.2.1 j 2).toInt ((σ.2.1 j 4).toInt + kp.toInt) := by
  unfold oC1
  rw [sG_o (by decide), sG_s, xminl h0 hk]
theorem oC1_ln {kp : Int32} {i : Nat} (h : LI E (σ.2.1 i)) (hj : LI E (σ.2.1 j)) (hk : 0 ≤ kp.toInt) (hf : (σ.2.1 j 4).toInt ≤ (σ.2.1 j 2).toInt) (hE : E < 2000) : LN ((oC1 σ j kp).2.1 i) := by
  by_cases e : i = j
  · subst e
    obtain ⟨n0, n1, n2, n3, n4, n5⟩ := h
    have e2 := oC1_e (σ := σ) (j := i) (kp := kp) (by omega) hk
    have e1 : (oC1 σ i kp).2.1 i 1 = σ.2.1 i 1 := by unfold oC1; rw [sG_o (by decide), sG_o (by decide)]
    unfold LN
    rw [e1, e2]
    omega
  · have : (oC1 σ j kp).2.1 i = σ.2.1 i := by unfold oC1; rw [sG_n e, sG_n e]
    rw [this]
    exact ⟨h.1, h.2.1, h.2.2.1, by have := h.2.2.2.1; omega⟩
theorem oC1_rf {kp : Int32} (h : RF σ j) (hj : LI E (σ.2.1 j)) (hk : 0 ≤ kp.toInt) : RF (oC1 σ j kp) j := by
  obtain ⟨n0, n1, n2, n3, n4, n5⟩ := hj
  have e2 := oC1_e (σ := σ) (j := j) (kp := kp) (by omega) hk
  have e1 : (oC1 σ j kp).2.1 j 1 = σ.2.1 j 1 := by unfold oC1; rw [sG_o (by decide), sG_o (by decide)]
  have e4 : (oC1 σ j kp).2.1 j 4 = σ.2.1 j 4 := by unfold oC1; rw [sG_o (by decide), sG_o (by decide)]
  have hf := h.2
  refine ⟨h.1.sub rfl (fun o h1 h2 => ?_), ?_⟩
  · unfold zb at h1 ⊢
    unfold ze at h2 ⊢
    rw [e1] at h1
    rw [clT] at h2 ⊢
    rw [e2] at h2
    exact ⟨h1, by rw [clT]; omega⟩
  · rw [e4, e2]; omega
/-- in the midst of a crash -/
def CI (u u' : Int32) (σ τ : SG) (k : Nat) : Prop := τ.1 0 0 = u' ∧ (∀ q, q < k → PI u' τ q) ∧ (∀ q, k ≤ q → q < 4 → PI u τ q ∧ (∀ i, 2 ≤ i → i ≤ 7 → τ.1 i q = σ.1 i q) ∧ ∀ m, m < 5 → τ.2.1 (5 * q + m) = σ.2.1 (5 * q + m)) ∧ (∀ j, j < 20 → RF τ j) ∧ ∀ k, k < 6 → PK τ k
theorem oRi_oo {τ : SG} {p : Nat} (hi : PI (τ.1 0 0) τ p) {i : Nat} (h : ¬ i / 5 = p) : (oRi τ p).2.1 i = τ.2.1 i := by
  cases ho : oOw τ p with
  | none => rw [oRi_no ho]
  | some j =>
    obtain ⟨_, m, hm, e, _, h2⟩ := hi.ld (oOw_ld ho)
    have := (oOw_c hm e h2).symm.trans ho
    cases this
    rw [oRi_s ho]
    by_cases h1 : oLs τ p 5 = 2147483647
    · rw [if_pos h1]
    · rw [if_neg h1]
      by_cases h2 : τ.2.1 (5 * p + m) 3 < oLs τ p 5
      · rw [if_pos h2]; exact sG_n (by omega)
      · rw [if_neg h2]
theorem CI.st {kp : Int32} (h : CI u u' σ τ k) (hk4 : k < 4) (hn : n < 5) (hu : ∀ m, m < 5 → (bt u' m ↔ bt u m ∧ ¬ m = n)) (hA : LA E σ) (hk : 0 ≤ kp.toInt) (c : Int32) : CI u u' σ (oC4 (τ, c) k (nI n) kp).1 (k + 1) := by
  obtain ⟨a, b, d, e, f⟩ := h
  obtain ⟨d1, d2, d3⟩ := d k (Nat.le_refl _) hk4
  have old : (PI u' τ k) → CI u u' σ τ (k + 1) := fun z => ⟨a, fun q hq => by
    by_cases y : q = k
    · rw [y]; exact z
    · exact b q (by omega), fun q h1 h2 => d q (by omega) h2, e, f⟩
  unfold oC4
  by_cases h1 : τ.1 2 k = 0
  · rw [if_pos h1]; exact old (d1.dn hu (fun z => absurd h1 z))
  · rw [if_neg h1]
    show CI u u' σ (if _ then _ else _ : SG) (k + 1)
    by_cases h2 : (τ.1 3 k >>> (nI n &&& 31)) &&& 1 = 1
    · rw [if_pos h2, nI_clamp (by omega)]
      have hi : PI u' (oC9 τ k n kp) k := d1.c9 hn hu h1
      obtain ⟨t1, t2⟩ := oC9_t (σ := τ) (p := k) (n := n) (kp := kp)
      have lj := hA (5 * k + n) (by omega)
      rw [← d3 n hn] at lj
      have o1 : ∀ i, ¬ i = 5 * k + n → (oC9 τ k n kp).2.1 i = τ.2.1 i := fun i hi => by rw [t2]; unfold oC1; rw [sG_n hi, sG_n hi]
      have o2 : (oC9 τ k n kp).2.2 = τ.2.2 := by rw [t2]; rfl
      have hi0 : PI ((oC9 τ k n kp).1 0 0) (oC9 τ k n kp) k := by rw [t1 0 0 (by omega), a]; exact hi
      show CI u u' σ (oRi (oC9 τ k n kp) k) (k + 1)
      refine ⟨by rw [oRi_1, t1 0 0 (by omega)]; exact a, fun q hq => ?_, fun q q1 q2 => ⟨?_, fun i i1 i2 => ?_, fun m hm => ?_⟩, fun j hj => ?_, fun k' hk' => (f k' hk').of (by rw [oRi_1]; exact t1 9 k' (by omega)) (by rw [oRi_1]; exact t1 12 k' (by omega))⟩
      · by_cases y : q = k
        · rw [y]; exact hi.of (by rw [oRi_1]) (by rw [oRi_1]) (by rw [oRi_1]) (by rw [oRi_1]) (fun z => absurd (by rw [t1 2 k (by omega)] at z; exact z) h1)
        · exact (b q (by omega)).of (by rw [oRi_1]; exact t1 2 q (by omega)) (by rw [oRi_1]; exact t1 3 q (by omega)) (by rw [oRi_1]; exact t1 4 q (by omega)) (by rw [oRi_1]; exact t1 7 q (by omega)) (fun _ m hm g _ _ => by rw [oRi_oo hi0 (by omega), o1 _ (by omega)])
      · exact (d q (by omega) q2).1.of (by rw [oRi_1]; exact t1 2 q (by omega)) (by rw [oRi_1]; exact t1 3 q (by omega)) (by rw [oRi_1]; exact t1 4 q (by omega)) (by rw [oRi_1]; exact t1 7 q (by omega)) (fun _ m hm g _ _ => by rw [oRi_oo hi0 (by omega), o1 _ (by omega)])
      · rw [oRi_1, t1 i q (by omega)]; exact (d q (by omega) q2).2.1 i i1 i2
      · rw [oRi_oo hi0 (by omega), o1 _ (by omega)]; exact (d q (by omega) q2).2.2 m hm
      · have base : RF (oC9 τ k n kp) j := by
          by_cases y : j = 5 * k + n
          · rw [y]; exact (oC1_rf (e (5 * k + n) (by omega)) lj hk).of (by rw [t2]) (by rw [t2]) (by rw [t2]) (by rw [t2])
          · exact (e j hj).of (by rw [o1 j y]) (by rw [o1 j y]) (by rw [o1 j y]) (by rw [o2])
        exact base.of (oRi_g (by decide)) (oRi_g (by decide)) (oRi_g (by decide)) (by rw [oRi_z])
    · rw [if_neg h2]; exact old (d1.dn hu (fun _ => h2))
theorem CI.all {kp : Int32} (hn : n < 5) (hu : ∀ m, m < 5 → (bt u' m ↔ bt u m ∧ ¬ m = n)) (hA : LA E σ) (hk : 0 ≤ kp.toInt) {s : SG × Int32} (h : CI u u' σ s.1 0) : ∀ k, k ≤ 4 → CI u u' σ (oC5 s (nI n) kp k).1 k := by
  intro k
  induction k with
  | zero => exact fun _ => h
  | succ k ih => exact fun hk4 => (ih (by omega)).st (by omega) hn hu hA hk _
/-- up, one node less -/
theorem CI.begin (h : SK σ) (x : Int32) : CI (σ.1 0 0) x σ (sA σ 0 0 x) 0 :=
  ⟨sA_s, fun q hq => absurd hq (Nat.not_lt_zero _), fun q _ hq => ⟨(h.1 q hq).of (sA_n (by decide)) (sA_n (by decide)) (sA_n (by decide)) (sA_n (by decide)) (fun _ _ _ _ _ _ => rfl), fun i i1 _ => sA_n (by omega), fun _ _ => rfl⟩, fun j hj => (h.2.1 j hj).of rfl rfl rfl rfl, fun k hk => (h.2.2 k hk).of (sA_n (by decide)) (sA_n (by decide))⟩
theorem SK.cr (h : SK σ) (hA : LA E σ) (n kp : Int32) : SK (qCr σ n kp).1 := by
  unfold qCr
  by_cases h1 : sp_iu (σ.1 0 0) n = 0
  · rw [if_pos h1]; exact h
  · rw [if_neg h1]
    by_cases h2 : kp < 0
    · rw [if_pos h2]; exact h
    · rw [if_neg h2]
      obtain ⟨j, hj, rfl⟩ := vp_in_of (sp_iu1 h1).1 (by decide)
      have hk : 0 ≤ kp.toInt := by rw [xk_lt, xk_0] at h2; omega
      obtain ⟨a, b, _, d, e⟩ := CI.all (kp := kp) (s := (sA σ 0 0 (σ.1 0 0 &&& ((1 <<< (nI j &&& 31)) ^^^ (-1))), 0)) hj (fun m hm => bt_clr hm hj) hA hk (CI.begin h _) 4 (Nat.le_refl _)
      exact ⟨fun p hp => by rw [a]; exact b p hp, d, e⟩
end XK
section XK
variable {u u' : Int32} {σ σ' τ : SG} {p j k n F l : Nat} {E : Int}
theorem oFr_eq {x : Int32} (h1 : (σ.2.1 F 1).toInt ≤ (σ.2.1 F 2).toInt) (h2 : x.toInt ≤ (σ.2.1 F 2).toInt) : oFr σ F x = sG σ F 1 (imx (σ.2.1 F 1) x) := by
  by_cases q : x ≤ σ.2.1 F 1
  · have e : imx (σ.2.1 F 1) x = σ.2.1 F 1 := by unfold imx; rw [if_neg (by rw [xk_lt]; rw [xk_le] at q; omega)]
    unfold oFr
    rw [if_pos q, e, sG_self]
  · have e : imx (σ.2.1 F 1) x = x := by unfold imx; rw [if_pos (by rw [xk_lt]; rw [xk_le] at q; omega)]
    unfold oFr
    rw [if_neg q, e]
    by_cases q2 : σ.2.1 F 2 ≤ x
    · have e2 : x = σ.2.1 F 2 := by rw [xk_eq]; rw [xk_le] at q2; omega
      rw [if_pos q2, sG_comm (by decide), show sG σ F 2 x = σ by rw [e2, sG_self]]
    · rw [if_neg q2]
theorem fW_b {P : Nat → Bool} : ∀ n o, o ≤ fW P n o ∧ fW P n o ≤ o + n := by
  intro n
  induction n with
  | zero => intro o; exact ⟨Nat.le_refl _, Nat.le_refl _⟩
  | succ n ih =>
    intro o
    rw [fW]
    by_cases h : P o = true
    · rw [if_pos h]; have := ih (o + 1); omega
    · rw [if_neg h]; omega
theorem oAg_eq (h : LI E (σ.2.1 F)) : oAg σ F l = oA1 σ F l := by
  unfold oAg oA1
  by_cases q : σ.2.1 l 1 ≤ σ.2.1 F 2
  · rw [if_pos q, if_pos q]
  · rw [if_neg q, if_neg q]
    obtain ⟨n0, n1, _⟩ := h
    rw [xk_le] at q
    unfold oFr
    rw [if_neg (by rw [xk_le]; omega), if_pos (by rw [xk_le]; omega)]
/-- behind agreeWith's first step: the numbers -/
theorem oA1_n (h : LI E (σ.2.1 F)) (hl : LI E (σ.2.1 l)) (hne : ¬ F = l) : (oA1 σ F l).1 = σ.1 ∧ (oA1 σ F l).2.2 = σ.2.2 ∧ (∀ i, ¬ i = F → (oA1 σ F l).2.1 i = σ.2.1 i) ∧ (∀ f, ¬ f = 1 → ¬ f = 2 → (oA1 σ F l).2.1 F f = σ.2.1 F f) ∧ (((oA1 σ F l).2.1 F 1 = σ.2.1 F 1 ∧ (oA1 σ F l).2.1 F 2 = σ.2.1 F 2 ∧ (σ.2.1 l 1).toInt ≤ (σ.2.1 F 2).toInt) ∨ ((oA1 σ F l).2.1 F 1 = σ.2.1 l 1 ∧ (oA1 σ F l).2.1 F 2 = σ.2.1 l 1)) := by
  unfold oA1
  by_cases q : σ.2.1 l 1 ≤ σ.2.1 F 2
  · rw [if_pos q]; rw [xk_le] at q; exact ⟨rfl, rfl, fun _ _ => rfl, fun _ _ _ => rfl, Or.inl ⟨rfl, rfl, q⟩⟩
  · rw [if_neg q]; exact ⟨rfl, rfl, fun i hi => by rw [sG_n hi, sG_n hi], fun f f1 f2 => by rw [sG_o f2, sG_o f1], Or.inr ⟨by rw [sG_o (by decide), sG_s], sG_s⟩⟩
/-- where they cease to agree -/
theorem oPt_b (h0 : 0 ≤ (τ.2.1 F 1).toInt) (h1 : (τ.2.1 F 1).toInt ≤ (τ.2.1 F 2).toInt) (h2 : (τ.2.1 l 1).toInt ≤ (τ.2.1 F 2).toInt) (h3 : 0 ≤ (τ.2.1 l 1).toInt) (h4 : (τ.2.1 F 2).toInt < 2000) : (nI (oPt τ F l)).toInt = (oPt τ F l : Int) ∧ (τ.2.1 F 1).toInt ≤ (oPt τ F l : Int) ∧ (τ.2.1 l 1).toInt ≤ (oPt τ F l : Int) ∧ (oPt τ F l : Int) ≤ (τ.2.1 F 2).toInt := by
  have e := imx_t (τ.2.1 F 1) (τ.2.1 l 1)
  have b := fW_b (P := pAg τ F l) (ze τ F - (imx (τ.2.1 F 1) (τ.2.1 l 1)).toNatClampNeg) (imx (τ.2.1 F 1) (τ.2.1 l 1)).toNatClampNeg
  have c : oPt τ F l = fW (pAg τ F l) (ze τ F - (imx (τ.2.1 F 1) (τ.2.1 l 1)).toNatClampNeg) (imx (τ.2.1 F 1) (τ.2.1 l 1)).toNatClampNeg := rfl
  rw [← c] at b
  have d : (imx (τ.2.1 F 1) (τ.2.1 l 1)).toNatClampNeg = (imx (τ.2.1 F 1) (τ.2.1 l 1)).toInt.toNat := clT _
  have f : ze τ F = (τ.2.1 F 2).toInt.toNat := clT _
  have g : oPt τ F l < 2 ^ 31 := by omega
  refine ⟨nI_toInt g, ?_, ?_, ?_⟩ <;> omega
theorem oCt_eq (h0 : 0 ≤ (τ.2.1 F 1).toInt) (h1 : (τ.2.1 F 1).toInt ≤ (τ.2.1 F 2).toInt) (h2 : (τ.2.1 l 1).toInt ≤ (τ.2.1 F 2).toInt) (h3 : 0 ≤ (τ.2.1 l 1).toInt) (h4 : (τ.2.1 F 2).toInt < 2000) : oCt τ F l = sG τ F 2 (nI (oPt τ F l)) := by
  obtain ⟨e, _, _, b⟩ := oPt_b h0 h1 h2 h3 h4
  unfold oCt
  by_cases q : τ.2.1 F 2 ≤ nI (oPt τ F l)
  · rw [if_pos q]
    have : nI (oPt τ F l) = τ.2.1 F 2 := by rw [xk_le] at q; rw [xk_eq]; omega
    rw [this, sG_self]
  · rw [if_neg q]
/-- agreeWith and the known end, as the model has them -/
theorem oF1_eq (h : LI E (σ.2.1 F)) (hl : LI E (σ.2.1 l)) (hne : ¬ F = l) (hE : E < 2000) : oF1 (oCt (oAg σ F l) F l) F = sG (oA2 (oA1 σ F l) F l) F 5 ((oA2 (oA1 σ F l) F l).2.1 F 2) := by
  rw [oAg_eq h]
  obtain ⟨a, b, c, d, e⟩ := oA1_n h hl hne
  obtain ⟨n0, n1, n2, n3, n4, n5⟩ := h
  obtain ⟨m0, m1, m2, m3, m4, m5⟩ := hl
  have cl := congrFun (c l (fun z => hne z.symm)) 1
  have : oCt (oA1 σ F l) F l = sG (oA1 σ F l) F 2 (nI (oPt (oA1 σ F l) F l)) := by
    rcases e with ⟨e1, e2, e3⟩ | ⟨e1, e2⟩
    · exact oCt_eq (by rw [e1]; omega) (by rw [e1, e2]; omega) (by rw [cl, e2]; omega) (by rw [cl]; omega) (by rw [e2]; omega)
    · exact oCt_eq (by rw [e1]; omega) (by rw [e1, e2]; omega) (by rw [cl, e2]; omega) (by rw [cl]; omega) (by rw [e2]; omega)
  rw [this]
  unfold oF1 oA2
  rw [sG_s, sG_o (g := 4) (f := 2) (by decide), sG_o (g := 2) (f := 4) (by decide), sG_s]
/-- behind agreeWith: numbers, and what holds -/
theorem oA2_n (h : LI E (σ.2.1 F)) (hl : LI E (σ.2.1 l)) (hne : ¬ F = l) (hE : E < 2000) : (oA2 (oA1 σ F l) F l).1 = σ.1 ∧ (oA2 (oA1 σ F l) F l).2.2 = σ.2.2 ∧ (∀ i, ¬ i = F → (oA2 (oA1 σ F l) F l).2.1 i = σ.2.1 i) ∧ (LN ((oA2 (oA1 σ F l) F l).2.1 F) ∧ (σ.2.1 l 1).toInt ≤ ((oA2 (oA1 σ F l) F l).2.1 F 2).toInt ∧ ((oA2 (oA1 σ F l) F l).2.1 F 4).toInt ≤ ((oA2 (oA1 σ F l) F l).2.1 F 2).toInt) ∧ (∀ o, zb (oA2 (oA1 σ F l) F l) F ≤ o → o < ze (oA2 (oA1 σ F l) F l) F → zb σ F ≤ o ∧ o < ze σ F) := by
  obtain ⟨a, b, c, d, e⟩ := oA1_n h hl hne
  obtain ⟨n0, n1, n2, n3, n4, n5⟩ := h
  obtain ⟨m0, m1, m2, m3, m4, m5⟩ := hl
  have cl := congrFun (c l (fun z => hne z.symm)) 1
  have bb : (nI (oPt (oA1 σ F l) F l)).toInt = (oPt (oA1 σ F l) F l : Int) ∧ ((oA1 σ F l).2.1 F 1).toInt ≤ (oPt (oA1 σ F l) F l : Int) ∧ ((oA1 σ F l).2.1 l 1).toInt ≤ (oPt (oA1 σ F l) F l : Int) ∧ (oPt (oA1 σ F l) F l : Int) ≤ ((oA1 σ F l).2.1 F 2).toInt := by
    rcases e with ⟨e1, e2, e3⟩ | ⟨e1, e2⟩
    · exact oPt_b (by rw [e1]; omega) (by rw [e1, e2]; omega) (by rw [cl, e2]; omega) (by rw [cl]; omega) (by rw [e2]; omega)
    · exact oPt_b (by rw [e1]; omega) (by rw [e1, e2]; omega) (by rw [cl, e2]; omega) (by rw [cl]; omega) (by rw [e2]; omega)
  obtain ⟨b1, b2, b3, b4⟩ := bb
  have f1 : (oA2 (oA1 σ F l) F l).2.1 F 1 = (oA1 σ F l).2.1 F 1 := by unfold oA2; rw [sG_o (by decide), sG_o (by decide)]
  have f2 : (oA2 (oA1 σ F l) F l).2.1 F 2 = nI (oPt (oA1 σ F l) F l) := by unfold oA2; rw [sG_o (by decide), sG_s]
  have f4 : ((oA2 (oA1 σ F l) F l).2.1 F 4).toInt ≤ (oPt (oA1 σ F l) F l : Int) := by unfold oA2; rw [sG_s, imn_t, b1]; omega
  rw [cl] at b3
  refine ⟨a, b, fun i hi => by unfold oA2; rw [sG_n hi, sG_n hi]; exact c i hi, ⟨?_, by rw [f2, b1]; omega, by rw [f2, b1]; exact f4⟩, fun o o1 o2 => ?_⟩
  · unfold LN
    rw [f1, f2, b1]
    rcases e with ⟨e1, e2, e3⟩ | ⟨e1, e2⟩
    · rw [e1] at b2 ⊢; rw [e2] at b4; omega
    · rw [e1] at b2 ⊢; rw [e2] at b4; omega
  · unfold zb at o1 ⊢
    unfold ze at o2 ⊢
    rw [f1, clT] at o1
    rw [f2, clT, b1] at o2
    rw [clT, clT]
    rcases e with ⟨e1, e2, e3⟩ | ⟨e1, e2⟩
    · rw [e1] at o1; rw [e2] at b4; omega
    · rw [e1] at o1; rw [e2] at b4; omega
theorem SK.a2 (h : SK σ) {m : Nat} (hp : p < 4) (hn : n < 5) (hm : m < 5) (hne : ¬ n = m) (ht : ¬ σ.1 2 p = 0) (hA : LA E σ) (hE : E < 2000) : SK (oA2 (oA1 σ (5 * p + n) (5 * p + m)) (5 * p + n) (5 * p + m)) := by
  obtain ⟨a, b, c, ⟨_, _, d⟩, e⟩ := oA2_n (hA (5 * p + n) (by omega)) (hA (5 * p + m) (by omega)) (by omega) hE
  exact h.l1 hp hn ht a (fun i hi => ⟨c i hi, by rw [b]⟩) ⟨((h.2.1 _ (by omega)).1).sub (by rw [b]) e, d⟩
theorem B5.or {x : Int32} (h : B5 x) (hn : n < 5) : B5 (x ||| (1 <<< (nI n &&& 31))) := xu_or h (nI_in (by omega) (by decide))
/-- one more is in step -/
theorem PI.add (h : PI u σ p) (hn : n < 5) (ht : ¬ σ.1 2 p = 0) (hb : bt (σ.1 3 p) n) (hup : bt u n) (hl : ¬ σ.1 4 p < 0) : PI u (sA σ 7 p (σ.1 7 p ||| (1 <<< (nI n &&& 31)))) p := by
  obtain ⟨⟨a1, a2⟩, b, c, d⟩ := h.2 ht
  obtain ⟨_, m, hm, e, c1, c2⟩ := h.ld hl
  refine ⟨fun z => absurd (by rw [sA_n (by decide)] at z; exact z) ht, fun _ => ?_⟩
  rw [sA_s, sA_n (i := 3) (by decide), sA_n (i := 4) (by decide)]
  refine ⟨⟨a1.or hn, a2⟩, fun k hk z => ?_, Or.inr ⟨m, hm, e, (bt_set hm hn).mpr (Or.inl c1), c2⟩, Or.inl (fun k hk z => ?_)⟩
  · rcases (bt_set hk hn).mp z with y | y
    · exact b k hk y
    · rw [y]; exact hb
  · rcases (bt_set hk hn).mp z with y | y
    · rcases d with d | ⟨q, hq, d⟩
      · exact d k hk y
      · rw [d k hk y, ← d m hm c1]; exact c2
    · rw [y]; exact hup
theorem SK.f2 (h : SK σ) : SK (oF2 σ F l) := by
  unfold oF2
  split
  · exact h.g (by decide)
  · exact h
theorem SK.f3 (h : SK σ) (hp : p < 4) (hn : n < 5) (ht : ¬ σ.1 2 p = 0) (hb : bt (σ.1 3 p) n) (hup : bt (σ.1 0 0) n) (hl : ¬ σ.1 4 p < 0) : SK (oF3 σ F l p (nI n)) := by
  unfold oF3
  split
  · exact h
  · exact h.new (P := p) rfl (fun i q hi => sA_q (by omega)) ((h.1 p hp).add hn ht hb hup hl)
/-- follow, before its raise -/
abbrev oF9 (σ : SG) (p n m : Nat) : SG := oF3 (oF2 (sG (oA2 (oA1 σ (5 * p + n) (5 * p + m)) (5 * p + n) (5 * p + m)) (5 * p + n) 5 ((oA2 (oA1 σ (5 * p + n) (5 * p + m)) (5 * p + n) (5 * p + m)).2.1 (5 * p + n) 2)) (5 * p + n) (5 * p + m)) (5 * p + n) (5 * p + m) p (nI n)
theorem oF2_t : (oF2 σ F l).1 = σ.1 ∧ (oF2 σ F l).2.2 = σ.2.2 ∧ ∀ i f, ¬ f = 6 → (oF2 σ F l).2.1 i f = σ.2.1 i f := by
  unfold oF2
  split
  · exact ⟨rfl, rfl, fun i f hf => sG_o hf⟩
  · exact ⟨rfl, rfl, fun _ _ _ => rfl⟩
theorem oF3_t {x : Int32} : (∀ i q, ¬ (i = 7 ∧ q = p) → (oF3 σ F l p x).1 i q = σ.1 i q) ∧ (oF3 σ F l p x).2 = σ.2 := by
  unfold oF3
  split
  · exact ⟨fun _ _ _ => rfl, rfl⟩
  · exact ⟨fun i q h => sA_q h, rfl⟩
theorem SK.f9 (h : SK σ) {m : Nat} (hp : p < 4) (hn : n < 5) (hm : m < 5) (hne : ¬ n = m) (ht : ¬ σ.1 2 p = 0) (hA : LA E σ) (hE : E < 2000) (hb : bt (σ.1 3 p) n) (hup : bt (σ.1 0 0) n) (hl : ¬ σ.1 4 p < 0) : SK (oF9 σ p n m) := by
  obtain ⟨a, _⟩ := oA2_n (hA (5 * p + n) (by omega)) (hA (5 * p + m) (by omega)) (by omega) hE
  have e1 : (oF2 (sG (oA2 (oA1 σ (5 * p + n) (5 * p + m)) (5 * p + n) (5 * p + m)) (5 * p + n) 5 ((oA2 (oA1 σ (5 * p + n) (5 * p + m)) (5 * p + n) (5 * p + m)).2.1 (5 * p + n) 2)) (5 * p + n) (5 * p + m)).1 = σ.1 := by rw [oF2_t.1]; exact a
  exact SK.f3 (SK.f2 ((h.a2 hp hn hm hne ht hA hE).g (by decide))) hp hn (by rw [e1]; exact ht) (by rw [e1]; exact hb) (by rw [e1]; exact hup) (by rw [e1]; exact hl)
/-- behind follow's first half: the numbers of its two logs -/
theorem oF9_n {m : Nat} (hp : p < 4) (hn : n < 5) (hm : m < 5) (hne : ¬ n = m) (hA : LA E σ) (hE : E < 2000) : (∀ i q, ¬ (i = 7 ∧ q = p) → (oF9 σ p n m).1 i q = σ.1 i q) ∧ (oF9 σ p n m).2.2 = σ.2.2 ∧ (∀ i, ¬ i = 5 * p + n → (oF9 σ p n m).2.1 i = σ.2.1 i) ∧ LN ((oF9 σ p n m).2.1 (5 * p + n)) ∧ (σ.2.1 (5 * p + m) 1).toInt ≤ ((oF9 σ p n m).2.1 (5 * p + n) 2).toInt ∧ ((oF9 σ p n m).2.1 (5 * p + n) 4).toInt ≤ ((oF9 σ p n m).2.1 (5 * p + n) 2).toInt := by
  obtain ⟨a, b, c, ⟨d1, d2, d3⟩, e⟩ := oA2_n (hA (5 * p + n) (by omega)) (hA (5 * p + m) (by omega)) (by omega) hE
  generalize hτ : oA2 (oA1 σ (5 * p + n) (5 * p + m)) (5 * p + n) (5 * p + m) = τ at a b c d1 d2 d3 e
  unfold oF9
  rw [hτ]
  have g : ∀ i f, ¬ f = 6 → ¬ f = 5 → (oF3 (oF2 (sG τ (5 * p + n) 5 (τ.2.1 (5 * p + n) 2)) (5 * p + n) (5 * p + m)) (5 * p + n) (5 * p + m) p (nI n)).2.1 i f = τ.2.1 i f := fun i f h6 h5 => by
    rw [oF3_t.2, oF2_t.2.2 i f h6, sG_o h5]
  refine ⟨fun i q hi => ?_, ?_, fun i hi => ?_, ?_, ?_, ?_⟩
  · rw [oF3_t.1 i q hi, oF2_t.1]; show τ.1 i q = _; rw [a]
  · rw [oF3_t.2, oF2_t.2.1]; exact b
  · rw [oF3_t.2, ← c i hi]
    unfold oF2
    split
    · rw [sG_n hi, sG_n hi]
    · rw [sG_n hi]
  · unfold LN
    rw [g _ 1 (by decide) (by decide), g _ 2 (by decide) (by decide)]
    exact d1
  · rw [g _ 2 (by decide) (by decide)]; exact d2
  · rw [g _ 4 (by decide) (by decide), g _ 2 (by decide) (by decide)]; exact d3
theorem sG_comm2 {σ : SG} {j i f g : Nat} {x y : Int32} (h : ¬ (j = i ∧ f = g)) : sG (sG σ j f x) i g y = sG (sG σ i g y) j f x := by
  unfold sG
  refine Prod.ext rfl (Prod.ext ?_ rfl)
  funext a b
  show p2 (p2 σ.2.1 j f x) i g y a b = p2 (p2 σ.2.1 i g y) j f x a b
  by_cases h1 : a = i ∧ b = g
  · obtain ⟨rfl, rfl⟩ := h1
    rw [p2_at, p2_ne _ _ (fun z => h ⟨z.1.symm, z.2.symm⟩), p2_at]
  · rw [p2_ne _ _ h1]
    by_cases h2 : a = j ∧ b = f
    · obtain ⟨rfl, rfl⟩ := h2
      rw [p2_at, p2_at]
    · rw [p2_ne _ _ h2, p2_ne _ _ h2, p2_ne _ _ h1]
/-- what comes does not ask for the start or what is flushed -/
theorem oTn_sG {f : Nat} {x : Int32} (hf : ¬ f = 2) : ∀ k, oTn (sG σ F f x) F l k = (sG (oTn σ F l k).1 F f x, (oTn σ F l k).2) := by
  intro k
  induction k with
  | zero => rfl
  | succ k ih =>
    show (if (oTn (sG σ F f x) F l k).1.2.1 l 2 ≤ (oTn (sG σ F f x) F l k).1.2.1 F 2 then _ else _ : SG × Int32) = (sG (if _ then _ else _ : SG × Int32).1 F f x, (if _ then _ else _ : SG × Int32).2)
    rw [ih]
    have c1 : (sG (oTn σ F l k).1 F f x).2.1 l 2 = (oTn σ F l k).1.2.1 l 2 := sG_o (fun z => hf z.symm)
    have c2 : (sG (oTn σ F l k).1 F f x).2.1 F 2 = (oTn σ F l k).1.2.1 F 2 := sG_o (fun z => hf z.symm)
    show (if (sG (oTn σ F l k).1 F f x).2.1 l 2 ≤ (sG (oTn σ F l k).1 F f x).2.1 F 2 then _ else _ : SG × Int32) = _
    rw [c1, c2]
    by_cases q : (oTn σ F l k).1.2.1 l 2 ≤ (oTn σ F l k).1.2.1 F 2
    · rw [if_pos q, if_pos q]
    · rw [if_neg q, if_neg q]
      refine Prod.ext ?_ rfl
      show oTk (sG (oTn σ F l k).1 F f x) F l ((oTn σ F l k).1.2.1 F 2) = sG (oTk (oTn σ F l k).1 F l ((oTn σ F l k).1.2.1 F 2)) F f x
      unfold oTk
      rw [c2]
      exact sG_comm2 (σ := sZ (oTn σ F l k).1 F ((oTn σ F l k).1.2.1 F 2).toNatClampNeg ((oTn σ F l k).1.2.2 l ((oTn σ F l k).1.2.1 F 2).toNatClampNeg)) (fun z => hf z.2)
/-- fetchFrom, as the model has it -/
theorem oFf_eq (hne : ¬ F = l) (h : LN (σ.2.1 F)) (hl : LN (σ.2.1 l)) (hge : (σ.2.1 l 1).toInt ≤ (σ.2.1 F 2).toInt) (h4 : (σ.2.1 F 4).toInt ≤ (σ.2.1 F 2).toInt) : oFf σ F l = (oF5 (oTn σ F l 5).1 F l, (oTn σ F l 5).2) := by
  obtain ⟨n0, n1, n2, n3⟩ := h
  obtain ⟨m0, m1, m2, m3⟩ := hl
  obtain ⟨a, b, c, d, e⟩ := oTn_fr (τ := σ) hne (by omega) (by omega) (by omega) 5
  have bl := (b l (fun z => hne z.symm)).1
  have e1 : oTn (oDb σ F (σ.2.1 l 1)) F l 5 = (sG (sG (oTn σ F l 5).1 F 1 (imx (σ.2.1 F 1) (σ.2.1 l 1))) F 4 (imx (σ.2.1 F 4) (imx (σ.2.1 F 1) (σ.2.1 l 1))), (oTn σ F l 5).2) := by
    unfold oDb
    rw [oTn_sG (by decide), oTn_sG (by decide)]
  unfold oFf
  rw [e1]
  generalize hτ : oTn σ F l 5 = s at a b c d e bl
  obtain ⟨τ, r⟩ := s
  refine Prod.ext ?_ rfl
  have c1 : τ.2.1 F 1 = σ.2.1 F 1 := c 1 (by decide)
  have c4 : τ.2.1 F 4 = σ.2.1 F 4 := c 4 (by decide)
  have l1 : τ.2.1 l 1 = σ.2.1 l 1 := congrFun bl 1
  have d : (σ.2.1 F 2).toInt ≤ (τ.2.1 F 2).toInt := d
  have e2 : oFr τ F (τ.2.1 l 1) = sG τ F 1 (imx (σ.2.1 F 1) (σ.2.1 l 1)) := by
    rw [oFr_eq (by rw [c1]; omega) (by rw [l1]; omega), l1, c1]
  show sG (sG (sG τ F 1 (imx (σ.2.1 F 1) (σ.2.1 l 1))) F 4 (imx (σ.2.1 F 4) (imx (σ.2.1 F 1) (σ.2.1 l 1)))) F 3 (imn ((sG (sG τ F 1 (imx (σ.2.1 F 1) (σ.2.1 l 1))) F 4 (imx (σ.2.1 F 4) (imx (σ.2.1 F 1) (σ.2.1 l 1)))).2.1 l 3) ((sG (sG τ F 1 (imx (σ.2.1 F 1) (σ.2.1 l 1))) F 4 (imx (σ.2.1 F 4) (imx (σ.2.1 F 1) (σ.2.1 l 1)))).2.1 F 2)) = oF5 τ F l
  unfold oF5
  rw [e2]
  rw [sG_comm (by decide : ¬ (4 : Nat) = 3), sG_s, sG_o (g := 3) (f := 4) (by decide), sG_o (g := 2) (f := 4) (by decide), sG_o (g := 4) (f := 1) (by decide), c4]
  have e3 : imx (σ.2.1 F 4) (imx (σ.2.1 F 1) (σ.2.1 l 1)) = imx (imx (σ.2.1 F 1) (σ.2.1 l 1)) (imn (σ.2.1 F 4) ((sG τ F 1 (imx (σ.2.1 F 1) (σ.2.1 l 1))).2.1 F 2)) := by
    rw [sG_o (by decide), xk_eq]
    have a1 := imx_t (σ.2.1 F 4) (imx (σ.2.1 F 1) (σ.2.1 l 1))
    have a2 := imx_t (imx (σ.2.1 F 1) (σ.2.1 l 1)) (imn (σ.2.1 F 4) (τ.2.1 F 2))
    have a3 := imn_t (σ.2.1 F 4) (τ.2.1 F 2)
    omega
  rw [← e3]
theorem oTn_sk (h : SK σ) {m : Nat} (hp : p < 4) (hn : n < 5) (hm : m < 5) (hne : ¬ n = m) (ht : ¬ σ.1 2 p = 0) (h1 : LN (σ.2.1 (5 * p + n))) (h2 : LN (σ.2.1 (5 * p + m))) (hge : (σ.2.1 (5 * p + m) 1).toInt ≤ (σ.2.1 (5 * p + n) 2).toInt) : ∀ k, SK (oTn σ (5 * p + n) (5 * p + m) k).1 := by
  obtain ⟨n0, n1, n2, n3⟩ := h1
  obtain ⟨m0, m1, m2, m3⟩ := h2
  intro k
  induction k with
  | zero => exact h
  | succ k ih =>
    obtain ⟨a, b, c, d, e⟩ := oTn_fr (τ := σ) (F := 5 * p + n) (l := 5 * p + m) (by omega) (by omega) (by omega) (by omega) k
    rw [oTn]
    by_cases q : (oTn σ (5 * p + n) (5 * p + m) k).1.2.1 (5 * p + m) 2 ≤ (oTn σ (5 * p + n) (5 * p + m) k).1.2.1 (5 * p + n) 2
    · rw [if_pos q]; exact ih
    · rw [if_neg q]
      generalize hτ : (oTn σ (5 * p + n) (5 * p + m) k).1 = τ at ih a b c d e q ⊢
      have bl := (b (5 * p + m) (by omega)).1
      have c1 := c 1 (by decide)
      rw [xk_le, bl] at q
      show SK (oAd τ (5 * p + n) (τ.2.2 (5 * p + m) (τ.2.1 (5 * p + n) 2).toNatClampNeg))
      have rk := (ih.2.1 (5 * p + m) (by omega)).1 (τ.2.1 (5 * p + n) 2).toNatClampNeg (zb_le (by rw [bl]; omega)) (lt_ze (by omega) (by rw [bl]; omega))
      have ek : SK (oAd τ (5 * p + n) (τ.2.2 (5 * p + m) (τ.2.1 (5 * p + n) 2).toNatClampNeg)) := by
        refine ih.l1 hp hn (by rw [a]; exact ht) rfl (fun i hi => ⟨p2_na _ _ hi, p2_na _ _ hi⟩) ⟨((ih.2.1 _ (by omega)).1).ad (by omega) (by omega) rk, ?_⟩
        have := (ih.2.1 (5 * p + n) (by omega)).2
        rw [oAd_g (fun z => absurd z.2 (by decide)), oAd_e, xaddk (k := 1) (by decide) (by omega) (by omega)]
        omega
      exact ek
theorem SK.f5 (h : SK σ) {m : Nat} (hp : p < 4) (hn : n < 5) (hm : m < 5) (hne : ¬ n = m) (ht : ¬ σ.1 2 p = 0) (n0 : 0 ≤ (σ.2.1 (5 * p + n) 1).toInt) (n1 : (σ.2.1 (5 * p + n) 1).toInt ≤ (σ.2.1 (5 * p + n) 2).toInt) (hge : (σ.2.1 (5 * p + m) 1).toInt ≤ (σ.2.1 (5 * p + n) 2).toInt) : SK (oF5 σ (5 * p + n) (5 * p + m)) := by
  have hr := h.2.1 (5 * p + n) (by omega)
  have e2 : oFr σ (5 * p + n) (σ.2.1 (5 * p + m) 1) = sG σ (5 * p + n) 1 (imx (σ.2.1 (5 * p + n) 1) (σ.2.1 (5 * p + m) 1)) := by
    rw [oFr_eq n1 hge]
  unfold oF5
  rw [e2]
  refine h.l1 hp hn ht rfl (fun i hi => ⟨by rw [sG_n hi, sG_n hi, sG_n hi], rfl⟩) ⟨hr.1.sub rfl (fun o o1 o2 => ?_), ?_⟩
  · rw [sG_zb (fun z => absurd z.2 (by decide)), sG_zb (fun z => absurd z.2 (by decide)), sG_zbs] at o1
    rw [sG_ze (fun z => absurd z.2 (by decide)), sG_ze (fun z => absurd z.2 (by decide)), sG_ze (fun z => absurd z.2 (by decide))] at o2
    have := zb_le (σ := σ) (j := 5 * p + n) (y := imx (σ.2.1 (5 * p + n) 1) (σ.2.1 (5 * p + m) 1)) (by rw [imx_t]; omega)
    exact ⟨by omega, o2⟩
  · have hf := hr.2
    rw [sG_s, sG_o (g := 2) (f := 4) (by decide), sG_o (g := 2) (f := 3) (by decide), sG_o (g := 2) (f := 1) (by decide), sG_s, sG_o (g := 4) (f := 1) (by decide), imx_t, imx_t, imn_t]
    omega
theorem SK.fo (h : SK σ) (hA : LA E σ) (hE : E < 1900) (n p : Int32) : SK (qFo σ n p).1 := by
  unfold qFo
  by_cases h1 : sp_ir (σ.1 2) (σ.1 3) n p = 0
  · rw [if_pos h1]; exact h
  · rw [if_neg h1]
    obtain ⟨⟨hp, ht⟩, hn, hb⟩ := sp_ir1 h1
    by_cases h2 : sp_iu (σ.1 0 0) n = 0
    · rw [if_pos h2]; exact h
    · rw [if_neg h2]
      have hup := (sp_iu1 h2).2
      obtain ⟨i, hi, rfl⟩ := vp_in_of hn (by decide)
      have hp := vp_lt hp
      generalize p.toNatClampNeg = P at hp ht hb ⊢
      rw [nI_clamp (by omega)]
      by_cases h3 : σ.1 4 P = nI i
      · rw [if_pos h3]; exact h
      · rw [if_neg h3]
        cases ho : oOw σ P with
        | none => exact h
        | some j =>
          obtain ⟨m, hm, rfl, e, _, _⟩ := h.ow hp ho
          have hne : ¬ i = m := fun z => h3 (by rw [e, z])
          have e9 : oFa σ (5 * P + i) (5 * P + m) P (nI i) = oRi (oF9 σ P i m) P := by
            unfold oFa
            rw [oF1_eq (hA (5 * P + i) (by omega)) (hA (5 * P + m) (by omega)) (by omega) (by omega)]
          show SK (oF5 (oTn (oFa σ (5 * P + i) (5 * P + m) P (nI i)) (5 * P + i) (5 * P + m) 5).1 (5 * P + i) (5 * P + m))
          rw [e9]
          have s9 := h.f9 hp hi hm hne ht hA (by omega) hb hup (oOw_ld ho)
          obtain ⟨t1, t2, t3, t4, t5, t6⟩ := oF9_n (σ := σ) (p := P) (n := i) (m := m) hp hi hm hne hA (by omega)
          have sr := s9.ri hp
          have g1 : ∀ a f, ¬ f = 3 → (oRi (oF9 σ P i m) P).2.1 a f = (oF9 σ P i m).2.1 a f := fun a f hf => oRi_g hf
          have lnF : LN ((oRi (oF9 σ P i m) P).2.1 (5 * P + i)) := by unfold LN; rw [g1 _ 1 (by decide), g1 _ 2 (by decide)]; exact t4
          have lnl : LN ((oRi (oF9 σ P i m) P).2.1 (5 * P + m)) := by
            unfold LN
            rw [g1 _ 1 (by decide), g1 _ 2 (by decide), t3 _ (by omega)]
            exact (hA (5 * P + m) (by omega)).ln (by omega)
          have ge : ((oRi (oF9 σ P i m) P).2.1 (5 * P + m) 1).toInt ≤ ((oRi (oF9 σ P i m) P).2.1 (5 * P + i) 2).toInt := by rw [g1 _ 1 (by decide), g1 _ 2 (by decide), t3 _ (by omega)]; exact t5
          have t9 : ¬ (oRi (oF9 σ P i m) P).1 2 P = 0 := by rw [oRi_1, t1 2 P (by omega)]; exact ht
          have st := oTn_sk sr hp hi hm hne t9 lnF lnl ge 5
          obtain ⟨a, b, c, d, e'⟩ := oTn_fr (τ := oRi (oF9 σ P i m) P) (F := 5 * P + i) (l := 5 * P + m) (by omega) (by have := lnF.1; have := lnF.2.1; omega) lnl.2.2.2 lnF.2.2.2 5
          refine st.f5 hp hi hm hne (by rw [a]; exact t9) ?_ ?_ ?_
          · rw [c 1 (by decide)]; exact lnF.1
          · rw [c 1 (by decide)]; have := lnF.2.1; omega
          · rw [(b _ (by omega)).1]; omega
end XK
