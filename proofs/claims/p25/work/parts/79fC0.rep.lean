/-! the class's pool holds a value -/
/-- node n has a log of partition p -/
def lvj (σ : SG) (p n : Nat) : Prop := ¬ σ.1 2 p = 0 ∧ bt (σ.1 3 p) n
/-- one producer -/
def RPp (I : Nat → Int32) (σ : SG) (k : Nat) : Prop :=
  I 0 = nI k ∧ I 1 = σ.1 8 k ∧ I 2 = σ.1 9 k ∧ I 5 = σ.1 10 k ∧ (σ.1 9 k = 1 → I 4 = σ.1 8 k) ∧ (σ.1 9 k = 2 → I 4 = σ.1 11 k ∧ ((I 3 = 0 ∧ σ.1 12 k = 2) ∨ (I 3 = 1 ∧ σ.1 12 k = 1)))
/-- one partition -/
def RPq (v pa ra : Nat → Nat) (T : Nat → Nat → Nat) (I : Nat → Nat → Int32) (Q : Nat → Nat → Option Nat) (σ : SG) (p : Nat) : Prop :=
  (σ.1 2 p = 0 → Q (v 1) p = none) ∧ (¬ σ.1 2 p = 0 → Q (v 1) p = some (pa p) ∧ (I (pa p) 0 = σ.1 3 p ∧ I (pa p) 1 = σ.1 6 p ∧ I (pa p) 3 = σ.1 4 p ∧ I (pa p) 4 = σ.1 5 p ∧ I (pa p) 5 = σ.1 7 p) ∧
    ∀ n, n < 5 → (bt (σ.1 3 p) n → Q (T (pa p) 2) n = some (ra (5 * p + n))) ∧ (¬ bt (σ.1 3 p) n → Q (T (pa p) 2) n = none))
/-- one log: its numbers (known, where it is not left out), its records -/
def RPr (ra : Nat → Nat) (T : Nat → Nat → Nat) (I : Nat → Nat → Int32) (Q : Nat → Nat → Option Nat) (kx : Nat → Prop) (σ : SG) (j : Nat) : Prop :=
  (∀ f, 1 ≤ f → f ≤ 6 → (f = 5 → ¬ kx j) → I (ra j) f = σ.2.1 j f) ∧ ∀ o, zb σ j ≤ o → o < ze σ j → ∃ a, Q (T (ra j) 0) (o % 60) = some a ∧ ∀ f, f < 8 → I a f = σ.2.2 j o f
/-- what was seen last -/
def RPs (Q5 : Option Nat) (I : Nat → Nat → Int32) (σ : SG) : Prop := match Q5 with
  | none => ∀ i, i < 6 → σ.1 16 i = 0
  | some a => I a 0 = σ.1 16 0 ∧ ∀ i, i < 5 → I a (i + 2) = σ.1 16 (i + 1)
/-- the addresses are apart -/
def RPa (pa ra : Nat → Nat) (T : Nat → Nat → Nat) (σ : SG) : Prop :=
  (∀ p q, p < 4 → q < 4 → ¬ σ.1 2 p = 0 → ¬ σ.1 2 q = 0 → pa p = pa q → p = q) ∧
  ∀ p n q m, p < 4 → n < 5 → q < 4 → m < 5 → lvj σ p n → lvj σ q m → (ra (5 * p + n) = ra (5 * q + m) ∨ T (ra (5 * p + n)) 0 = T (ra (5 * q + m)) 0) → p = q ∧ n = m
def REP (v pa ra : Nat → Nat) (L : List Nat) (K N : Nat → Nat) (T : Nat → Nat → Nat) (I : Nat → Nat → Int32) (Q : Nat → Nat → Option Nat) (J : Nat → Nat → Int32) (kx : Nat → Prop) (σ : SG) : Prop :=
  (CT v L K N T I Q) ∧ (I (v 0) 3 = σ.1 0 0) ∧ (I (v 0) 4 = σ.1 0 1) ∧ (∀ g, g < 4 → I (v (10 + g)) 0 = σ.1 13 g ∧ I (v (10 + g)) 1 = σ.1 14 g) ∧ (∀ g p, g < 4 → p < 4 → J (v (14 + g)) p = σ.1 15 (4 * g + p)) ∧ (∀ k, k < 6 → RPp (I (v (4 + k))) σ k) ∧ (∀ p, p < 4 → RPq v pa ra T I Q σ p) ∧ (∀ p n, p < 4 → n < 5 → lvj σ p n → RPr ra T I Q kx σ (5 * p + n)) ∧ (RPs (Q (v 0) 5) I σ) ∧ (RPa pa ra T σ)
section XC
variable {v pa ra : Nat → Nat} {L : List Nat} {K N : Nat → Nat} {T : Nat → Nat → Nat} {I : Nat → Nat → Int32} {Q : Nat → Nat → Option Nat} {J : Nat → Nat → Int32} {kx : Nat → Prop} {σ : SG} {p n : Nat}
theorem REP.ct (h : REP v pa ra L K N T I Q J kx σ) : CT v L K N T I Q := h.1
theorem REP.up (h : REP v pa ra L K N T I Q J kx σ) : I (v 0) 3 = σ.1 0 0 := h.2.1
theorem REP.nw (h : REP v pa ra L K N T I Q J kx σ) : I (v 0) 4 = σ.1 0 1 := h.2.2.1
theorem REP.gr (h : REP v pa ra L K N T I Q J kx σ) : ∀ g, g < 4 → I (v (10 + g)) 0 = σ.1 13 g ∧ I (v (10 + g)) 1 = σ.1 14 g := h.2.2.2.1
theorem REP.ps (h : REP v pa ra L K N T I Q J kx σ) : ∀ g p, g < 4 → p < 4 → J (v (14 + g)) p = σ.1 15 (4 * g + p) := h.2.2.2.2.1
theorem REP.pr (h : REP v pa ra L K N T I Q J kx σ) : ∀ k, k < 6 → RPp (I (v (4 + k))) σ k := h.2.2.2.2.2.1
theorem REP.pt (h : REP v pa ra L K N T I Q J kx σ) : ∀ p, p < 4 → RPq v pa ra T I Q σ p := h.2.2.2.2.2.2.1
theorem REP.lg (h : REP v pa ra L K N T I Q J kx σ) : ∀ p n, p < 4 → n < 5 → lvj σ p n → RPr ra T I Q kx σ (5 * p + n) := h.2.2.2.2.2.2.2.1
theorem REP.sn (h : REP v pa ra L K N T I Q J kx σ) : RPs (Q (v 0) 5) I σ := h.2.2.2.2.2.2.2.2.1
theorem REP.ap (h : REP v pa ra L K N T I Q J kx σ) : RPa pa ra T σ := h.2.2.2.2.2.2.2.2.2
theorem REP.pq (h : REP v pa ra L K N T I Q J kx σ) (hp : p < 4) (ht : ¬ σ.1 2 p = 0) : Q (v 1) p = some (pa p) := ((h.pt p hp).2 ht).1
theorem REP.pL (h : REP v pa ra L K N T I Q J kx σ) (hp : p < 4) (ht : ¬ σ.1 2 p = 0) : pa p ∈ L ∧ K (pa p) = 2 := h.ct.2.2.2.1 p _ hp (h.pq hp ht)
theorem REP.pR (h : REP v pa ra L K N T I Q J kx σ) (hp : p < 4) (ht : ¬ σ.1 2 p = 0) : T (pa p) 2 ∈ L ∧ K (T (pa p) 2) = 12 := h.ct.2.2.2.2.1 _ (h.pL hp ht).1 (h.pL hp ht).2
theorem REP.rq (h : REP v pa ra L K N T I Q J kx σ) (hp : p < 4) (hn : n < 5) (hl : lvj σ p n) : Q (T (pa p) 2) n = some (ra (5 * p + n)) := (((h.pt p hp).2 hl.1).2.2 n hn).1 hl.2
theorem REP.rn (h : REP v pa ra L K N T I Q J kx σ) (hp : p < 4) (hn : n < 5) (ht : ¬ σ.1 2 p = 0) (hl : ¬ bt (σ.1 3 p) n) : Q (T (pa p) 2) n = none := (((h.pt p hp).2 ht).2.2 n hn).2 hl
theorem REP.rL (h : REP v pa ra L K N T I Q J kx σ) (hp : p < 4) (hn : n < 5) (hl : lvj σ p n) : ra (5 * p + n) ∈ L ∧ K (ra (5 * p + n)) = 4 := h.ct.2.2.2.2.2.1 _ (h.pR hp hl.1).1 (h.pR hp hl.1).2 n _ hn (h.rq hp hn hl)
theorem REP.rS (h : REP v pa ra L K N T I Q J kx σ) (hp : p < 4) (hn : n < 5) (hl : lvj σ p n) : T (ra (5 * p + n)) 0 ∈ L ∧ K (T (ra (5 * p + n)) 0) = 8 := h.ct.2.2.2.2.2.2.1 _ (h.rL hp hn hl).1 (h.rL hp hn hl).2
theorem REP.g (h : REP v pa ra L K N T I Q J kx σ) (hp : p < 4) (hn : n < 5) (hl : lvj σ p n) {f : Nat} (h1 : 1 ≤ f) (h2 : f ≤ 6) (h3 : ¬ f = 5) : I (ra (5 * p + n)) f = σ.2.1 (5 * p + n) f := (h.lg p n hp hn hl).1 f h1 h2 (fun q => absurd q h3)
/-- the record at o -/
theorem REP.e (h : REP v pa ra L K N T I Q J kx σ) (hp : p < 4) (hn : n < 5) (hl : lvj σ p n) {o : Nat} (h1 : zb σ (5 * p + n) ≤ o) (h2 : o < ze σ (5 * p + n)) : ∃ a, Q (T (ra (5 * p + n)) 0) (o % 60) = some a ∧ (a ∈ L ∧ K a = 0) ∧ ∀ f, f < 8 → I a f = σ.2.2 (5 * p + n) o f := by
  obtain ⟨a, h3, h4⟩ := (h.lg p n hp hn hl).2 o h1 h2
  exact ⟨a, h3, h.ct.2.2.2.2.2.2.2.2 _ (h.rS hp hn hl).1 (h.rS hp hn hl).2 (o % 60) a (Nat.mod_lt _ (by decide)) h3, h4⟩
/-- the pool is another, but what was there is as it was -/
theorem REP.mv {L' : List Nat} {K' N' : Nat → Nat} {T' : Nat → Nat → Nat} {I' : Nat → Nat → Int32} {Q' : Nat → Nat → Option Nat} {J' : Nat → Nat → Int32} (h : REP v pa ra L K N T I Q J kx σ) (hC : CT v L' K' N' T' I' Q') (hT : ∀ a, a ∈ L → T' a = T a) (hI : ∀ a, a ∈ L → I' a = I a) (hQ : ∀ a, a ∈ L → Q' a = Q a) (hJ : ∀ a, a ∈ L → J' a = J a) : REP v pa ra L' K' N' T' I' Q' J' kx σ := by
  have hv : ∀ k, k < 18 → v k ∈ L := fun k hk => h.ct.at k hk
  refine ⟨hC, ?_, ?_, fun g hg => ?_, fun g p hg hp => ?_, fun k hk => ?_, fun p hp => ⟨fun h0 => ?_, fun h0 => ?_⟩, fun p n hp hn hl => ⟨fun f h1 h2 h3 => ?_, fun o h1 h2 => ?_⟩, ?_, ⟨h.ap.1, fun p n q m hp hn hq hm l1 l2 e => ?_⟩⟩
  · rw [hI _ (hv 0 (by decide))]; exact h.up
  · rw [hI _ (hv 0 (by decide))]; exact h.nw
  · rw [hI _ (hv (10 + g) (by omega))]; exact h.gr g hg
  · rw [hJ _ (hv (14 + g) (by omega))]; exact h.ps g p hg hp
  · rw [hI _ (hv (4 + k) (by omega))]; exact h.pr k hk
  · rw [hQ _ (hv 1 (by decide))]; exact (h.pt p hp).1 h0
  · rw [hQ _ (hv 1 (by decide)), hI _ (h.pL hp h0).1, hT _ (h.pL hp h0).1, hQ _ (h.pR hp h0).1]; exact (h.pt p hp).2 h0
  · rw [hI _ (h.rL hp hn hl).1]; exact (h.lg p n hp hn hl).1 f h1 h2 h3
  · obtain ⟨a, e1, e2, e3⟩ := h.e hp hn hl h1 h2
    rw [hT _ (h.rL hp hn hl).1, hQ _ (h.rS hp hn hl).1]
    exact ⟨a, e1, fun f hf => by rw [hI _ e2.1]; exact e3 f hf⟩
  · have hs := h.sn
    rw [hQ _ (hv 0 (by decide))]
    cases hq : Q (v 0) 5 with
    | none => rw [hq] at hs; exact hs
    | some a =>
      rw [hq] at hs
      have ha := (h.ct.2.2.1 a hq).1
      exact ⟨by rw [hI _ ha]; exact hs.1, fun i hi => by rw [hI _ ha]; exact hs.2 i hi⟩
  · rw [hT _ (h.rL hp hn l1).1, hT _ (h.rL hq hm l2).1] at e
    exact h.ap.2 p n q m hp hn hq hm l1 l2 e
end XC
section XC
variable {v pa ra : Nat → Nat} {L : List Nat} {K N : Nat → Nat} {T : Nat → Nat → Nat} {I I' : Nat → Nat → Int32} {Q Q' : Nat → Nat → Option Nat} {J J' : Nat → Nat → Int32} {kx kx' : Nat → Prop} {σ σ' : SG} {p n : Nat}
/-- entries are never written -/
theorem REP.e' (h : REP v pa ra L K N T I Q J kx σ) (hI : ∀ a, a ∈ L → K a = 0 → I' a = I a) (hp : p < 4) (hn : n < 5) (hl : lvj σ p n) {o : Nat} (h1 : zb σ (5 * p + n) ≤ o) (h2 : o < ze σ (5 * p + n)) : ∃ a, Q (T (ra (5 * p + n)) 0) (o % 60) = some a ∧ ∀ f, f < 8 → I' a f = σ.2.2 (5 * p + n) o f := by
  obtain ⟨a, e1, e2, e3⟩ := h.e hp hn hl h1 h2
  exact ⟨a, e1, fun f hf => by rw [hI a e2.1 e2.2]; exact e3 f hf⟩
theorem REP.sn' (h : REP v pa ra L K N T I Q J kx σ) (hI : ∀ a, a ∈ L → K a = 0 → I' a = I a) (hs : ∀ i, σ'.1 16 i = σ.1 16 i) : RPs (Q (v 0) 5) I' σ' := by
  have z := h.sn
  cases hq : Q (v 0) 5 with
  | none => rw [hq] at z; exact fun i hi => by rw [hs]; exact z i hi
  | some a =>
    rw [hq] at z
    have ha := h.ct.2.2.1 a hq
    exact ⟨by rw [hI a ha.1 ha.2, hs]; exact z.1, fun i hi => by rw [hI a ha.1 ha.2, hs]; exact z.2 i hi⟩
/-- Replicas alone are written -/
theorem REP.fr4 (h : REP v pa ra L K N T I Q J kx σ) (hC : CT v L K N T I' Q) (hI : ∀ a, a ∈ L → ¬ K a = 4 → I' a = I a) (s1 : σ'.1 = σ.1) (hl : ∀ p n, p < 4 → n < 5 → lvj σ p n → RPr ra T I' Q kx' σ' (5 * p + n)) : REP v pa ra L K N T I' Q J kx' σ' := by
  have hv : ∀ k, k < 18 → I' (v k) = I (v k) := fun k hk => hI _ (h.ct.at k hk) (by
    rw [(h.ct.1.1 k hk).2]
    unfold xK
    repeat' split
    all_goals decide)
  refine ⟨hC, ?_, ?_, fun g hg => ?_, fun g p hg hp => ?_, fun k hk => ?_, fun p hp => ?_, fun p n hp hn z => ?_, ?_, ?_⟩
  · rw [hv 0 (by decide), s1]; exact h.up
  · rw [hv 0 (by decide), s1]; exact h.nw
  · rw [hv (10 + g) (by omega), s1]; exact h.gr g hg
  · rw [s1]; exact h.ps g p hg hp
  · unfold RPp; rw [hv (4 + k) (by omega), s1]; exact h.pr k hk
  · unfold RPq; rw [s1]
    refine ⟨(h.pt p hp).1, fun h0 => ?_⟩
    rw [hI _ (h.pL hp h0).1 (by rw [(h.pL hp h0).2]; decide)]
    exact (h.pt p hp).2 h0
  · unfold lvj at z; rw [s1] at z; exact hl p n hp hn z
  · exact h.sn' (fun a ha hk => hI a ha (by rw [hk]; decide)) (fun i => by rw [s1])
  · unfold RPa lvj; rw [s1]; exact h.ap
/-- Partitions alone are written: leader, epoch, inStep -/
theorem REP.fr2 (h : REP v pa ra L K N T I Q J kx σ) (hC : CT v L K N T I' Q) (hI : ∀ a, a ∈ L → ¬ K a = 2 → I' a = I a) (s2 : σ'.2 = σ.2) (s1 : ∀ i q, ¬ (i = 4 ∨ i = 5 ∨ i = 7) → σ'.1 i q = σ.1 i q) (hl : ∀ p, p < 4 → ¬ σ.1 2 p = 0 → I' (pa p) 0 = σ'.1 3 p ∧ I' (pa p) 1 = σ'.1 6 p ∧ I' (pa p) 3 = σ'.1 4 p ∧ I' (pa p) 4 = σ'.1 5 p ∧ I' (pa p) 5 = σ'.1 7 p) : REP v pa ra L K N T I' Q J kx σ' := by
  have hv : ∀ k, k < 18 → I' (v k) = I (v k) := fun k hk => hI _ (h.ct.at k hk) (by
    rw [(h.ct.1.1 k hk).2]
    unfold xK
    repeat' split
    all_goals decide)
  have z2 : ∀ q, σ'.1 2 q = σ.1 2 q := fun q => s1 2 q (by decide)
  have z3 : ∀ q, σ'.1 3 q = σ.1 3 q := fun q => s1 3 q (by decide)
  have ze' : ∀ j, ze σ' j = ze σ j := fun j => by unfold ze; rw [s2]
  have zb' : ∀ j, zb σ' j = zb σ j := fun j => by unfold zb; rw [s2]
  refine ⟨hC, ?_, ?_, fun g hg => ?_, fun g p hg hp => ?_, fun k hk => ?_, fun p hp => ?_, fun p n hp hn z => ?_, ?_, ?_⟩
  · rw [hv 0 (by decide), s1 0 0 (by decide)]; exact h.up
  · rw [hv 0 (by decide), s1 0 1 (by decide)]; exact h.nw
  · rw [hv (10 + g) (by omega), s1 13 g (by decide), s1 14 g (by decide)]; exact h.gr g hg
  · rw [s1 15 _ (by decide)]; exact h.ps g p hg hp
  · unfold RPp; rw [hv (4 + k) (by omega), s1 8 k (by decide), s1 9 k (by decide), s1 10 k (by decide), s1 11 k (by decide), s1 12 k (by decide)]; exact h.pr k hk
  · unfold RPq; rw [z2, z3]
    refine ⟨(h.pt p hp).1, fun h0 => ⟨h.pq hp h0, ?_, ((h.pt p hp).2 h0).2.2⟩⟩
    have := hl p hp h0
    rw [z3] at this
    exact this
  · unfold lvj at z; rw [z2, z3] at z
    have hr := h.rL hp hn z
    refine ⟨fun f h1 h2 h3 => ?_, fun o h1 h2 => ?_⟩
    · rw [hI _ hr.1 (by rw [hr.2]; decide), s2]; exact (h.lg p n hp hn z).1 f h1 h2 h3
    · rw [zb'] at h1; rw [ze'] at h2
      rw [s2]; exact h.e' (fun a ha hk => hI a ha (by rw [hk]; decide)) hp hn z h1 h2
  · exact h.sn' (fun a ha hk => hI a ha (by rw [hk]; decide)) (fun i => s1 16 i (by decide))
  · unfold RPa lvj
    refine ⟨fun p q hp hq h0 h1 => ?_, fun p n q m hp hn hq hm l1 l2 => ?_⟩
    · rw [z2] at h0 h1; exact h.ap.1 p q hp hq h0 h1
    · rw [z2, z3] at l1 l2; exact h.ap.2 p n q m hp hn hq hm l1 l2
/-- one of the object's own cells is written (v k): the object, a producer, a group -/
theorem REP.fr0 (h : REP v pa ra L K N T I Q J kx σ) (hC : CT v L K N T I' Q) (hI : ∀ a, a ∈ L → (K a = 0 ∨ K a = 2 ∨ K a = 4) → I' a = I a) (s2 : σ'.2 = σ.2) (s1 : ∀ i q, 2 ≤ i → i ≤ 7 ∨ i = 16 → σ'.1 i q = σ.1 i q) (e1 : I' (v 0) 3 = σ'.1 0 0) (e2 : I' (v 0) 4 = σ'.1 0 1) (e3 : ∀ g, g < 4 → I' (v (10 + g)) 0 = σ'.1 13 g ∧ I' (v (10 + g)) 1 = σ'.1 14 g) (e4 : ∀ g p, g < 4 → p < 4 → J' (v (14 + g)) p = σ'.1 15 (4 * g + p)) (e5 : ∀ k, k < 6 → RPp (I' (v (4 + k))) σ' k) : REP v pa ra L K N T I' Q J' kx σ' := by
  have z2 : ∀ q, σ'.1 2 q = σ.1 2 q := fun q => s1 2 q (by decide) (by decide)
  have z3 : ∀ q, σ'.1 3 q = σ.1 3 q := fun q => s1 3 q (by decide) (by decide)
  have ze' : ∀ j, ze σ' j = ze σ j := fun j => by unfold ze; rw [s2]
  have zb' : ∀ j, zb σ' j = zb σ j := fun j => by unfold zb; rw [s2]
  refine ⟨hC, e1, e2, e3, e4, e5, fun p hp => ?_, fun p n hp hn z => ?_, ?_, ?_⟩
  · unfold RPq; rw [z2, z3, s1 4 p (by decide) (by decide), s1 5 p (by decide) (by decide), s1 6 p (by decide) (by decide), s1 7 p (by decide) (by decide)]
    refine ⟨(h.pt p hp).1, fun h0 => ?_⟩
    rw [hI _ (h.pL hp h0).1 (Or.inr (Or.inl (h.pL hp h0).2))]
    exact (h.pt p hp).2 h0
  · unfold lvj at z; rw [z2, z3] at z
    have hr := h.rL hp hn z
    refine ⟨fun f h1 h2 h3 => ?_, fun o h1 h2 => ?_⟩
    · rw [hI _ hr.1 (Or.inr (Or.inr hr.2)), s2]; exact (h.lg p n hp hn z).1 f h1 h2 h3
    · rw [zb'] at h1; rw [ze'] at h2
      rw [s2]; exact h.e' (fun a ha hk => hI a ha (Or.inl hk)) hp hn z h1 h2
  · exact h.sn' (fun a ha hk => hI a ha (Or.inl hk)) (fun i => s1 16 i (by decide) (by decide))
  · unfold RPa lvj
    refine ⟨fun p q hp hq h0 h1 => ?_, fun p n q m hp hn hq hm l1 l2 => ?_⟩
    · rw [z2] at h0 h1; exact h.ap.1 p q hp hq h0 h1
    · rw [z2, z3] at l1 l2; exact h.ap.2 p n q m hp hn hq hm l1 l2
/-- A: a Replica's hw, flushed, known, caught -/
theorem REP.wr (h : REP v pa ra L K N T I Q J kx σ) (hp : p < 4) (hn : n < 5) (hl : lvj σ p n) {f : Nat} (h1 : ¬ f = 1) (h2 : ¬ f = 2) {x : Int32} (hk : ∀ i, ¬ (i = 5 * p + n ∧ f = 5) → kx i → kx' i) : REP v pa ra L K N T (p2 I (ra (5 * p + n)) f x) Q J kx' (sG σ (5 * p + n) f x) := by
  have hr := h.rL hp hn hl
  refine h.fr4 (h.ct.pi (fun q => h1 q.2)) (fun a _ hk4 => p2_na _ _ (fun e => hk4 (by rw [e]; exact hr.2))) rfl (fun q m hq hm z => ?_)
  have b1 : zb (sG σ (5 * p + n) f x) (5 * q + m) = zb σ (5 * q + m) := sG_zb (fun z => h1 z.2)
  have b2 : ze (sG σ (5 * p + n) f x) (5 * q + m) = ze σ (5 * q + m) := sG_ze (fun z => h2 z.2)
  refine ⟨fun g hg1 hg2 hg3 => ?_, fun o ho1 ho2 => ?_⟩
  · by_cases e : 5 * q + m = 5 * p + n
    · obtain ⟨rfl, rfl⟩ : q = p ∧ m = n := by omega
      by_cases e2 : g = f
      · subst e2; rw [p2_at, sG_s]
      · rw [p2_ne _ _ (fun z => e2 z.2), sG_o e2]
        exact (h.lg q m hq hm z).1 g hg1 hg2 (fun g5 z5 => hg3 g5 (hk _ (fun y => e2 (by rw [g5, y.2])) z5))
    · have ea : ¬ ra (5 * q + m) = ra (5 * p + n) := fun y => by
        have := h.ap.2 q m p n hq hm hp hn z hl (Or.inl y)
        omega
      rw [p2_na _ _ ea, sG_n e]
      exact (h.lg q m hq hm z).1 g hg1 hg2 (fun g5 z5 => hg3 g5 (hk _ (fun y => e y.1) z5))
  · rw [b1] at ho1; rw [b2] at ho2
    exact h.e' (fun a ha hk0 => p2_na _ _ (fun e => by rw [e, hr.2] at hk0; omega)) hq hm z ho1 ho2
/-- B: a Replica's start or end; no record comes in -/
theorem REP.ws (h : REP v pa ra L K N T I Q J kx σ) (hp : p < 4) (hn : n < 5) (hl : lvj σ p n) {f : Nat} (hf : f = 1 ∨ f = 2) {x : Int32} (hx : 0 ≤ x.toInt) (hz : ∀ o, zb (sG σ (5 * p + n) f x) (5 * p + n) ≤ o → o < ze (sG σ (5 * p + n) f x) (5 * p + n) → zb σ (5 * p + n) ≤ o ∧ o < ze σ (5 * p + n)) : REP v pa ra L K N T (p2 I (ra (5 * p + n)) f x) Q J kx (sG σ (5 * p + n) f x) := by
  have hr := h.rL hp hn hl
  have hC : CT v L K N T (p2 I (ra (5 * p + n)) f x) Q := by
    rcases hf with rfl | rfl
    · exact h.ct.ps hx
    · exact h.ct.pi (fun q => absurd q.2 (by decide))
  refine h.fr4 hC (fun a _ hk4 => p2_na _ _ (fun e => hk4 (by rw [e]; exact hr.2))) rfl (fun q m hq hm z => ?_)
  refine ⟨fun g hg1 hg2 hg3 => ?_, fun o ho1 ho2 => ?_⟩
  · by_cases e : 5 * q + m = 5 * p + n
    · obtain ⟨rfl, rfl⟩ : q = p ∧ m = n := by omega
      by_cases e2 : g = f
      · subst e2; rw [p2_at, sG_s]
      · rw [p2_ne _ _ (fun z => e2 z.2), sG_o e2]
        exact (h.lg q m hq hm z).1 g hg1 hg2 hg3
    · have ea : ¬ ra (5 * q + m) = ra (5 * p + n) := fun y => by
        have := h.ap.2 q m p n hq hm hp hn z hl (Or.inl y)
        omega
      rw [p2_na _ _ ea, sG_n e]
      exact (h.lg q m hq hm z).1 g hg1 hg2 hg3
  · have h9 : zb σ (5 * q + m) ≤ o ∧ o < ze σ (5 * q + m) := by
      by_cases e : 5 * q + m = 5 * p + n
      · rw [e] at ho1 ho2 ⊢; exact hz o ho1 ho2
      · rw [sG_zb (fun z => e z.1)] at ho1; rw [sG_ze (fun z => e z.1)] at ho2; exact ⟨ho1, ho2⟩
    exact h.e' (fun a ha hk0 => p2_na _ _ (fun e => by rw [e, hr.2] at hk0; omega)) hq hm z h9.1 h9.2
/-- E: a Partition's leader, epoch, inStep -/
theorem REP.wp (h : REP v pa ra L K N T I Q J kx σ) (hp : p < 4) (ht : ¬ σ.1 2 p = 0) {f k : Nat} (hf : (f = 3 ∧ k = 4) ∨ (f = 4 ∧ k = 5) ∨ (f = 5 ∧ k = 7)) {x : Int32} : REP v pa ra L K N T (p2 I (pa p) f x) Q J kx (sA σ k p x) := by
  have hP := h.pL hp ht
  refine h.fr2 (h.ct.pi (fun q => by rw [hP.2] at q; omega)) (fun a _ hk2 => p2_na _ _ (fun e => hk2 (by rw [e]; exact hP.2))) rfl (fun i q hi => sA_n (fun e => hi (by omega))) (fun q hq h0 => ?_)
  have hh := ((h.pt q hq).2 h0).2.1
  by_cases e : q = p
  · subst e
    rcases hf with ⟨rfl, rfl⟩ | ⟨rfl, rfl⟩ | ⟨rfl, rfl⟩
    all_goals
      refine ⟨?_, ?_, ?_, ?_, ?_⟩
      all_goals first
        | (rw [p2_at]; exact (sA_s).symm)
        | (rw [p2_ne _ _ (fun z => absurd z.2 (by decide)), sA_n (by decide)]; first | exact hh.1 | exact hh.2.1 | exact hh.2.2.1 | exact hh.2.2.2.1 | exact hh.2.2.2.2)
  · have ea : ¬ pa q = pa p := fun y => e (h.ap.1 q p hq hp h0 ht y)
    rw [p2_na _ _ ea]
    have ek : ∀ i, (sA σ k p x).1 i q = σ.1 i q := fun i => p2_ne _ _ (fun z => e z.2)
    rw [ek, ek, ek, ek, ek]
    exact hh
end XC
section XC
variable {v pa ra : Nat → Nat} {L : List Nat} {K N : Nat → Nat} {T : Nat → Nat → Nat} {I I' : Nat → Nat → Int32} {Q Q' : Nat → Nat → Option Nat} {J J' : Nat → Nat → Int32} {kx kx' : Nat → Prop} {σ σ' : SG} {p n : Nat}
/-- C: a record is appended: it lies in its place already -/
theorem REP.wa (h : REP v pa ra L K N T I Q J kx σ) (hp : p < 4) (hn : n < 5) (hl : lvj σ p n) {r : Nat → Int32} (n0 : 0 ≤ (σ.2.1 (5 * p + n) 2).toInt) (n2 : (σ.2.1 (5 * p + n) 2).toInt < 2000) (hs : ∃ a, Q (T (ra (5 * p + n)) 0) (ze σ (5 * p + n) % 60) = some a ∧ (a ∈ L ∧ K a = 0) ∧ ∀ f, f < 8 → I a f = r f) : REP v pa ra L K N T (p2 I (ra (5 * p + n)) 2 (σ.2.1 (5 * p + n) 2 + 1)) Q J kx (oAd σ (5 * p + n) r) := by
  have hr := h.rL hp hn hl
  have b2 : ze (oAd σ (5 * p + n) r) (5 * p + n) = ze σ (5 * p + n) + 1 := by
    unfold ze
    rw [oAd_e, clT, clT, xaddk (k := 1) (by decide) (by omega) (by omega)]
    omega
  have hI0 : ∀ a, a ∈ L → K a = 0 → p2 I (ra (5 * p + n)) 2 (σ.2.1 (5 * p + n) 2 + 1) a = I a := fun a ha hk0 => p2_na _ _ (fun y => by rw [y, hr.2] at hk0; omega)
  refine h.fr4 (h.ct.pi (fun q => absurd q.2 (by decide))) (fun a _ hk4 => p2_na _ _ (fun y => hk4 (by rw [y]; exact hr.2))) rfl (fun q m hq hm z => ?_)
  refine ⟨fun g hg1 hg2 hg3 => ?_, fun o ho1 ho2 => ?_⟩
  · by_cases y : 5 * q + m = 5 * p + n
    · obtain ⟨rfl, rfl⟩ : q = p ∧ m = n := by omega
      by_cases y2 : g = 2
      · subst y2; rw [p2_at, oAd_e]
      · rw [p2_ne _ _ (fun z => y2 z.2), oAd_g (fun z => y2 z.2)]
        exact (h.lg q m hq hm z).1 g hg1 hg2 hg3
    · have ea : ¬ ra (5 * q + m) = ra (5 * p + n) := fun x => by
        have := h.ap.2 q m p n hq hm hp hn z hl (Or.inl x)
        omega
      rw [p2_na _ _ ea, oAd_g (fun z => y z.1)]
      exact (h.lg q m hq hm z).1 g hg1 hg2 hg3
  · by_cases y : 5 * q + m = 5 * p + n
    · obtain ⟨rfl, rfl⟩ : q = p ∧ m = n := by omega
      have b1 : zb (oAd σ (5 * q + m) r) (5 * q + m) = zb σ (5 * q + m) := by unfold zb; rw [oAd_g (fun z => absurd z.2 (by decide))]
      rw [b1] at ho1; rw [b2] at ho2
      by_cases y2 : o = ze σ (5 * q + m)
      · subst y2
        obtain ⟨a, e1, e2, e3⟩ := hs
        refine ⟨a, e1, fun f hf => ?_⟩
        rw [hI0 a e2.1 e2.2, e3 f hf]
        exact congrFun (oAd_zs (σ := σ) (j := 5 * q + m) (r := r)).symm f
      · rw [oAd_z (fun z => y2 z.2)]
        exact h.e' hI0 hq hm z ho1 (by omega)
    · have b1 : zb (oAd σ (5 * p + n) r) (5 * q + m) = zb σ (5 * q + m) := by unfold zb; rw [oAd_g (fun z => y z.1)]
      have b3 : ze (oAd σ (5 * p + n) r) (5 * q + m) = ze σ (5 * q + m) := by unfold ze; rw [oAd_g (fun z => y z.1)]
      rw [b1] at ho1; rw [b3] at ho2
      rw [oAd_z (fun z => y z.1)]
      exact h.e' hI0 hq hm z ho1 ho2
/-- D: a place of a log where no record lies -/
theorem REP.wq (h : REP v pa ra L K N T I Q J kx σ) (hp : p < 4) (hn : n < 5) (hl : lvj σ p n) {i : Nat} {y : Option Nat} (hy : ∀ b, y = some b → b ∈ L ∧ K b = 0) (hz : ∀ o, zb σ (5 * p + n) ≤ o → o < ze σ (5 * p + n) → ¬ o % 60 = i) : REP v pa ra L K N T I (p2 Q (T (ra (5 * p + n)) 0) i y) J kx σ := by
  have hS := h.rS hp hn hl
  have nk : ∀ a, ¬ K a = 8 → p2 Q (T (ra (5 * p + n)) 0) i y a = Q a := fun a ha => p2_na _ _ (fun z => ha (by rw [z]; exact hS.2))
  have k1 : ¬ K (v 1) = 8 := by rw [h.ct.k 1 (by decide) rfl]; decide
  have k0 : ¬ K (v 0) = 8 := by rw [h.ct.k 0 (by decide) rfl]; decide
  refine ⟨h.ct.q8 hS.2 hy, h.up, h.nw, h.gr, h.ps, h.pr, fun q hq => ⟨fun h0 => ?_, fun h0 => ?_⟩, fun q m hq hm z => ⟨(h.lg q m hq hm z).1, fun o h1 h2 => ?_⟩, ?_, h.ap⟩
  · rw [nk _ k1]; exact (h.pt q hq).1 h0
  · rw [nk _ k1, nk _ (by rw [(h.pR hq h0).2]; decide)]; exact (h.pt q hq).2 h0
  · have hh := (h.lg q m hq hm z).2 o h1 h2
    by_cases x : 5 * q + m = 5 * p + n
    · obtain ⟨rfl, rfl⟩ : q = p ∧ m = n := by omega
      rw [p2_ne _ _ (fun z => hz o h1 h2 z.2)]; exact hh
    · rw [p2_na _ _ (fun z' => x (by
        have := h.ap.2 q m p n hq hm hp hn z hl (Or.inr z')
        omega))]
      exact hh
  · rw [nk _ k0]; exact h.sn
/-- F: up, now -/
theorem REP.wo (h : REP v pa ra L K N T I Q J kx σ) {f : Nat} (hf : f = 0 ∨ f = 1) {x : Int32} : REP v pa ra L K N T (p2 I (v 0) (3 + f) x) Q J kx (sA σ 0 f x) := by
  have k5 : K (v 0) = 5 := h.ct.k 0 (by decide) rfl
  have hv : ∀ k, k < 18 → ¬ k = 0 → p2 I (v 0) (3 + f) x (v k) = I (v k) := fun k hk h0 => p2_na _ _ (fun z => h0 (h.ct.1.2.1 k 0 hk (by decide) z))
  have sn : ∀ i q, ¬ i = 0 → (sA σ 0 f x).1 i q = σ.1 i q := fun i q hi => sA_n hi
  refine h.fr0 (h.ct.pi (fun q => by rw [k5] at q; omega)) (fun a _ hk => p2_na _ _ (fun z => by rw [z, k5] at hk; omega)) rfl (fun i q hi _ => sn i q (by omega)) ?_ ?_ (fun g hg => ?_) (fun g q hg hq => ?_) (fun k hk => ?_)
  · rcases hf with rfl | rfl
    · rw [p2_at, sA_s]
    · rw [p2_ne _ _ (fun z => absurd z.2 (by decide)), sA_o (by decide)]; exact h.up
  · rcases hf with rfl | rfl
    · rw [p2_ne _ _ (fun z => absurd z.2 (by decide)), sA_o (by decide)]; exact h.nw
    · rw [p2_at, sA_s]
  · rw [hv (10 + g) (by omega) (by omega), sn 13 g (by decide), sn 14 g (by decide)]; exact h.gr g hg
  · rw [sn 15 _ (by decide)]; exact h.ps g q hg hq
  · unfold RPp
    rw [hv (4 + k) (by omega) (by omega), sn 8 k (by decide), sn 9 k (by decide), sn 10 k (by decide), sn 11 k (by decide), sn 12 k (by decide)]
    exact h.pr k hk
/-- G: a producer -/
theorem REP.wk (h : REP v pa ra L K N T I Q J kx σ) {k : Nat} (hk : k < 6) (hC : CT v L K N T I' Q) (hI : ∀ a, ¬ a = v (4 + k) → I' a = I a) (s2 : σ'.2 = σ.2) (s1 : ∀ i q, ¬ ((8 ≤ i ∧ i ≤ 12) ∧ q = k) → σ'.1 i q = σ.1 i q) (hr : RPp (I' (v (4 + k))) σ' k) : REP v pa ra L K N T I' Q J kx σ' := by
  have k3 := (h.ct.kp hk).2
  have hv : ∀ i, i < 18 → ¬ i = 4 + k → I' (v i) = I (v i) := fun i hi h0 => hI _ (fun z => h0 (h.ct.1.2.1 i (4 + k) hi (by omega) z))
  refine h.fr0 hC (fun a _ hk0 => hI a (fun z => by rw [z, k3] at hk0; omega)) s2 (fun i q _ hi => s1 i q (by omega)) ?_ ?_ (fun g hg => ?_) (fun g q hg hq => ?_) (fun i hi => ?_)
  · rw [hv 0 (by decide) (by omega), s1 0 0 (by omega)]; exact h.up
  · rw [hv 0 (by decide) (by omega), s1 0 1 (by omega)]; exact h.nw
  · rw [hv (10 + g) (by omega) (by omega), s1 13 g (by omega), s1 14 g (by omega)]; exact h.gr g hg
  · rw [s1 15 _ (by omega)]; exact h.ps g q hg hq
  · by_cases x : i = k
    · subst x; exact hr
    · unfold RPp
      rw [hv (4 + i) (by omega) (by omega), s1 8 i (by omega), s1 9 i (by omega), s1 10 i (by omega), s1 11 i (by omega), s1 12 i (by omega)]
      exact h.pr i hi
/-- H: a group's members, round -/
theorem REP.wg (h : REP v pa ra L K N T I Q J kx σ) {g f : Nat} (hg : g < 4) (hf : f = 0 ∨ f = 1) {x : Int32} : REP v pa ra L K N T (p2 I (v (10 + g)) f x) Q J kx (sA σ (13 + f) g x) := by
  have k1 := (h.ct.kg hg).2
  have hv : ∀ i, i < 18 → ¬ i = 10 + g → p2 I (v (10 + g)) f x (v i) = I (v i) := fun i hi h0 => p2_na _ _ (fun z => h0 (h.ct.1.2.1 i (10 + g) hi (by omega) z))
  have sn : ∀ i q, ¬ i = 13 + f → (sA σ (13 + f) g x).1 i q = σ.1 i q := fun i q hi => sA_n hi
  refine h.fr0 (h.ct.pi (fun q => by rw [k1] at q; omega)) (fun a _ hk => p2_na _ _ (fun z => by rw [z, k1] at hk; omega)) rfl (fun i q hi hi2 => sn i q (by omega)) ?_ ?_ (fun m hm => ?_) (fun m q hm hq => ?_) (fun k hk => ?_)
  · rw [hv 0 (by decide) (by omega), sn 0 0 (by omega)]; exact h.up
  · rw [hv 0 (by decide) (by omega), sn 0 1 (by omega)]; exact h.nw
  · by_cases y : m = g
    · subst y
      rcases hf with rfl | rfl
      · exact ⟨by rw [p2_at]; exact sA_s.symm, by rw [p2_ne _ _ (fun z => absurd z.2 (by decide)), sn 14 m (by decide)]; exact (h.gr m hm).2⟩
      · exact ⟨by rw [p2_ne _ _ (fun z => absurd z.2 (by decide)), sn 13 m (by decide)]; exact (h.gr m hm).1, by rw [p2_at]; exact sA_s.symm⟩
    · have sq : ∀ i, (sA σ (13 + f) g x).1 i m = σ.1 i m := fun i => p2_ne _ _ (fun z => y z.2)
      rw [hv (10 + m) (by omega) (by omega), sq, sq]; exact h.gr m hm
  · rw [sn 15 _ (by omega)]; exact h.ps m q hm hq
  · unfold RPp
    rw [hv (4 + k) (by omega) (by omega), sn 8 k (by omega), sn 9 k (by omega), sn 10 k (by omega), sn 11 k (by omega), sn 12 k (by omega)]
    exact h.pr k hk
/-- H: a group's position -/
theorem REP.wj (h : REP v pa ra L K N T I Q J kx σ) {g q : Nat} (hg : g < 4) (hq : q < 4) {x : Int32} : REP v pa ra L K N T I Q (va_up J (v (14 + g)) (upd (J (v (14 + g))) q x)) kx (sA σ 15 (4 * g + q) x) := by
  have sn : ∀ i q', ¬ i = 15 → (sA σ 15 (4 * g + q) x).1 i q' = σ.1 i q' := fun i q' hi => sA_n hi
  refine h.fr0 h.ct (fun _ _ _ => rfl) rfl (fun i q' hi hi2 => sn i q' (by omega)) h.up h.nw h.gr (fun m r hm hr => ?_) (fun k hk => ?_)
  · by_cases y : m = g
    · subst y
      rw [va_up_self]
      by_cases y2 : r = q
      · subst y2; rw [pk_us, sA_s]
      · rw [sA_o (by omega)]; simp only [upd, if_neg y2]; exact h.ps m r hm hr
    · rw [va_up_ne _ _ (fun z => y (by have := h.ct.1.2.1 (14 + m) (14 + g) (by omega) (by omega) z; omega)), sA_o (by omega)]; exact h.ps m r hm hr
  · unfold RPp
    rw [sn 8 k (by decide), sn 9 k (by decide), sn 10 k (by decide), sn 11 k (by decide), sn 12 k (by decide)]
    exact h.pr k hk
/-- I: what was seen last -/
theorem REP.wl (h : REP v pa ra L K N T I Q J kx σ) {b : Nat} (hb : b ∈ L ∧ K b = 0) (s2 : σ'.2 = σ.2) (s1 : ∀ i q, ¬ i = 16 → σ'.1 i q = σ.1 i q) (h0 : I b 0 = σ'.1 16 0) (h1 : ∀ i, i < 5 → I b (i + 2) = σ'.1 16 (i + 1)) : REP v pa ra L K N T I (p2 Q (v 0) 5 (some b)) J kx σ' := by
  have ze' : ∀ j, ze σ' j = ze σ j := fun j => by unfold ze; rw [s2]
  have zb' : ∀ j, zb σ' j = zb σ j := fun j => by unfold zb; rw [s2]
  have k5 : K (v 0) = 5 := h.ct.k 0 (by decide) rfl
  have nk : ∀ a, ¬ K a = 5 → p2 Q (v 0) 5 (some b) a = Q a := fun a ha => p2_na _ _ (fun z => ha (by rw [z]; exact k5))
  have k1 : ¬ K (v 1) = 5 := by rw [h.ct.k 1 (by decide) rfl]; decide
  refine ⟨h.ct.q5 (fun c hc => by cases hc; exact hb), ?_, ?_, fun g hg => ?_, fun g q hg hq => ?_, fun k hk => ?_, fun q hq => ?_, fun q m hq hm z => ?_, ?_, ?_⟩
  · rw [s1 0 0 (by decide)]; exact h.up
  · rw [s1 0 1 (by decide)]; exact h.nw
  · rw [s1 13 g (by decide), s1 14 g (by decide)]; exact h.gr g hg
  · rw [s1 15 _ (by decide)]; exact h.ps g q hg hq
  · unfold RPp; rw [s1 8 k (by decide), s1 9 k (by decide), s1 10 k (by decide), s1 11 k (by decide), s1 12 k (by decide)]; exact h.pr k hk
  · unfold RPq; rw [s1 2 q (by decide), s1 3 q (by decide), s1 4 q (by decide), s1 5 q (by decide), s1 6 q (by decide), s1 7 q (by decide), nk _ k1]
    refine ⟨(h.pt q hq).1, fun h0 => ?_⟩
    rw [nk _ (by rw [(h.pR hq h0).2]; decide)]
    exact (h.pt q hq).2 h0
  · unfold lvj at z; rw [s1 2 q (by decide), s1 3 q (by decide)] at z
    refine ⟨fun f h1 h2 h3 => by rw [s2]; exact (h.lg q m hq hm z).1 f h1 h2 h3, fun o h1 h2 => ?_⟩
    rw [zb'] at h1; rw [ze'] at h2
    rw [nk _ (by rw [(h.rS hq hm z).2]; decide), s2]; exact (h.lg q m hq hm z).2 o h1 h2
  · rw [p2_at]; exact ⟨h0, h1⟩
  · unfold RPa lvj
    refine ⟨fun p q hp hq h0 h1 => ?_, fun p n q m hp hn hq hm l1 l2 => ?_⟩
    · rw [s1 2 p (by decide)] at h0; rw [s1 2 q (by decide)] at h1; exact h.ap.1 p q hp hq h0 h1
    · rw [s1 2 p (by decide), s1 3 p (by decide)] at l1; rw [s1 2 q (by decide), s1 3 q (by decide)] at l2; exact h.ap.2 p n q m hp hn hq hm l1 l2
end XC
section XC
variable {v pa ra : Nat → Nat} {L : List Nat} {K N : Nat → Nat} {T : Nat → Nat → Nat} {I I' : Nat → Nat → Int32} {Q Q' : Nat → Nat → Option Nat} {J J' : Nat → Nat → Int32} {kx kx' : Nat → Prop} {σ σ' : SG} {p n : Nat}
/-- more logs whose known is left out -/
theorem REP.km (h : REP v pa ra L K N T I Q J kx σ) (hk : ∀ i, kx i → kx' i) : REP v pa ra L K N T I Q J kx' σ :=
  h.fr4 h.ct (fun _ _ _ => rfl) rfl (fun p n hp hn hl => ⟨fun f h1 h2 h3 => (h.lg p n hp hn hl).1 f h1 h2 (fun z y => h3 z (hk _ y)), (h.lg p n hp hn hl).2⟩)
theorem REP.kl (h : REP v pa ra L K N T I Q J kx σ) (hk : ∀ p n, p < 4 → n < 5 → lvj σ p n → kx (5 * p + n) → kx' (5 * p + n)) : REP v pa ra L K N T I Q J kx' σ :=
  h.fr4 h.ct (fun _ _ _ => rfl) rfl (fun p n hp hn hl => ⟨fun f h1 h2 h3 => (h.lg p n hp hn hl).1 f h1 h2 (fun z y => h3 z (hk p n hp hn hl y)), (h.lg p n hp hn hl).2⟩)
theorem kstep {P k i : Nat} (h : kx' i ∨ (kx i ∧ ¬ (i / 5 = P ∧ i % 5 < k))) (hne : ¬ i = 5 * P + k) : kx' i ∨ (kx i ∧ ¬ (i / 5 = P ∧ i % 5 < k + 1)) := by
  rcases h with h | h
  · exact Or.inl h
  · exact Or.inr ⟨h.1, fun y => h.2 ⟨y.1, by omega⟩⟩
/-- a log that no node has: what the value says of it is free (neither its start nor its end) -/
theorem REP.dd (h : REP v pa ra L K N T I Q J kx σ) (hn : n < 5) (hl : ¬ lvj σ p n) {f : Nat} (h1 : ¬ f = 1) (h2 : ¬ f = 2) {x : Int32} : REP v pa ra L K N T I Q J kx (sG σ (5 * p + n) f x) := by
  refine h.fr4 h.ct (fun _ _ _ => rfl) rfl (fun q m hq hm z => ?_)
  have ne : ¬ 5 * q + m = 5 * p + n := fun e => by
    obtain ⟨rfl, rfl⟩ : q = p ∧ m = n := by omega
    exact hl z
  refine ⟨fun g hg1 hg2 hg3 => ?_, fun o ho1 ho2 => ?_⟩
  · rw [sG_n ne]; exact (h.lg q m hq hm z).1 g hg1 hg2 hg3
  · rw [sG_zb (fun y => h1 y.2)] at ho1
    rw [sG_ze (fun y => h2 y.2)] at ho2
    exact (h.lg q m hq hm z).2 o ho1 ho2
/-- a known that is left out is free -/
theorem REP.kf (h : REP v pa ra L K N T I Q J kx σ) {j : Nat} (hk : kx j) {x : Int32} : REP v pa ra L K N T I Q J kx (sG σ j 5 x) := by
  refine h.fr4 h.ct (fun _ _ _ => rfl) rfl (fun q m hq hm z => ⟨fun g hg1 hg2 hg3 => ?_, fun o ho1 ho2 => ?_⟩)
  · by_cases e : g = 5
    · subst e
      by_cases e2 : 5 * q + m = j
      · exact absurd (e2 ▸ hk) (hg3 rfl)
      · rw [sG_n e2]; exact (h.lg q m hq hm z).1 5 hg1 hg2 hg3
    · rw [sG_o e]; exact (h.lg q m hq hm z).1 g hg1 hg2 hg3
  · rw [sG_zb (fun y => absurd y.2 (by decide))] at ho1
    rw [sG_ze (fun y => absurd y.2 (by decide))] at ho2
    exact (h.lg q m hq hm z).2 o ho1 ho2
theorem sG_comm {σ : SG} {j f g : Nat} {x y : Int32} (h : ¬ f = g) : sG (sG σ j f x) j g y = sG (sG σ j g y) j f x := by
  unfold sG
  refine Prod.ext rfl (Prod.ext ?_ rfl)
  funext a b
  show p2 (p2 σ.2.1 j f x) j g y a b = p2 (p2 σ.2.1 j g y) j f x a b
  by_cases h1 : a = j ∧ b = g
  · obtain ⟨rfl, rfl⟩ := h1
    rw [p2_at, p2_ne _ _ (fun z => h z.2.symm), p2_at]
  · rw [p2_ne _ _ h1]
    by_cases h2 : a = j ∧ b = f
    · obtain ⟨rfl, rfl⟩ := h2
      rw [p2_at, p2_at]
    · rw [p2_ne _ _ h2, p2_ne _ _ h2, p2_ne _ _ h1]
end XC
section XC
variable {v pa ra : Nat → Nat} {L : List Nat} {K N : Nat → Nat} {T : Nat → Nat → Nat} {I : Nat → Nat → Int32} {Q : Nat → Nat → Option Nat} {J : Nat → Nat → Int32} {kx kx' : Nat → Prop} {σ σ' : SG} {p : Nat}
/-- J: a partition comes in: its cell b, its logs c n -/
theorem REP.wc (h : REP v pa ra L K N T I Q J kx σ) (hp : p < 4) (h0 : σ.1 2 p = 0) {b : Nat} (hb : b ∈ L ∧ K b = 2) {c : Nat → Nat} (h1 : ¬ σ'.1 2 p = 0)
    (hf : I b 0 = σ'.1 3 p ∧ I b 1 = σ'.1 6 p ∧ I b 3 = σ'.1 4 p ∧ I b 4 = σ'.1 5 p ∧ I b 5 = σ'.1 7 p)
    (hr : ∀ n, n < 5 → (bt (σ'.1 3 p) n → Q (T b 2) n = some (c n)) ∧ (¬ bt (σ'.1 3 p) n → Q (T b 2) n = none))
    (hg : ∀ n, n < 5 → bt (σ'.1 3 p) n → (∀ f, 1 ≤ f → f ≤ 6 → I (c n) f = σ'.2.1 (5 * p + n) f) ∧ ze σ' (5 * p + n) ≤ zb σ' (5 * p + n))
    (hv1 : ¬ T b 2 = v 1)
    (a1 : ∀ q, q < 4 → ¬ σ.1 2 q = 0 → ¬ pa q = b) (a2 : ∀ q m n, q < 4 → m < 5 → lvj σ q m → n < 5 → bt (σ'.1 3 p) n → ¬ ra (5 * q + m) = c n ∧ ¬ T (ra (5 * q + m)) 0 = T (c n) 0) (a3 : ∀ n m, n < 5 → m < 5 → bt (σ'.1 3 p) n → bt (σ'.1 3 p) m → (c n = c m ∨ T (c n) 0 = T (c m) 0) → n = m)
    (s1 : ∀ i q, ¬ ((2 ≤ i ∧ i ≤ 7) ∧ q = p) → σ'.1 i q = σ.1 i q) (s2 : ∀ q m, ¬ q = p → m < 5 → σ'.2.1 (5 * q + m) = σ.2.1 (5 * q + m)) (s3 : ∀ q m, ¬ q = p → m < 5 → σ'.2.2 (5 * q + m) = σ.2.2 (5 * q + m)) (hk : ∀ i, kx i → kx' i)
    (hC : CT v L K N T I (p2 Q (v 1) p (some b))) : REP v (va_up pa p b) (fun j => if j / 5 = p then c (j % 5) else ra j) L K N T I (p2 Q (v 1) p (some b)) J kx' σ' := by
  have hv : ∀ a, ¬ a = v 1 → p2 Q (v 1) p (some b) a = Q a := fun a ha => p2_na _ _ ha
  have k10 : K (v 1) = 10 := h.ct.k 1 (by decide) rfl
  have nk : ∀ a, ¬ K a = 10 → p2 Q (v 1) p (some b) a = Q a := fun a ha => hv a (fun e => ha (by rw [e]; exact k10))
  have rp : ∀ n, n < 5 → (if (5 * p + n) / 5 = p then c ((5 * p + n) % 5) else ra (5 * p + n)) = c n := fun n hn => by
    rw [if_pos (by omega), show (5 * p + n) % 5 = n by omega]
  have ro : ∀ q m, ¬ q = p → m < 5 → (if (5 * q + m) / 5 = p then c ((5 * q + m) % 5) else ra (5 * q + m)) = ra (5 * q + m) := fun q m hq hm => by
    rw [if_neg (by omega)]
  have lo : ∀ q m, ¬ q = p → lvj σ' q m → lvj σ q m := fun q m hq z => by
    unfold lvj at z ⊢
    rw [s1 2 q (fun y => hq y.2), s1 3 q (fun y => hq y.2)] at z
    exact z
  refine ⟨hC, ?_, ?_, fun g hg => ?_, fun g q hg hq => ?_, fun k hk => ?_, fun q hq => ?_, fun q m hq hm z => ?_, ?_, ?_⟩
  · rw [s1 0 0 (by omega)]; exact h.up
  · rw [s1 0 1 (by omega)]; exact h.nw
  · rw [s1 13 g (by omega), s1 14 g (by omega)]; exact h.gr g hg
  · rw [s1 15 _ (by omega)]; exact h.ps g q hg hq
  · unfold RPp; rw [s1 8 k (by omega), s1 9 k (by omega), s1 10 k (by omega), s1 11 k (by omega), s1 12 k (by omega)]; exact h.pr k hk
  · by_cases e : q = p
    · subst e
      refine ⟨fun y => absurd y h1, fun _ => ?_⟩
      rw [p2_at, va_up_self, hv _ hv1]
      exact ⟨rfl, hf, fun n hn => by have y := hr n hn; rw [← rp n hn] at y; exact y⟩
    · unfold RPq
      rw [s1 2 q (fun y => e y.2), s1 3 q (fun y => e y.2), s1 4 q (fun y => e y.2), s1 5 q (fun y => e y.2), s1 6 q (fun y => e y.2), s1 7 q (fun y => e y.2), p2_ne _ _ (fun y => e y.2), va_up_ne _ _ e]
      refine ⟨(h.pt q hq).1, fun y => ⟨h.pq hq y, ((h.pt q hq).2 y).2.1, fun n hn => ?_⟩⟩
      have y2 := ((h.pt q hq).2 y).2.2 n hn
      rw [← ro q n e hn] at y2
      rw [nk _ (by rw [(h.pR hq y).2]; decide)]
      exact y2
  · by_cases e : q = p
    · subst e
      obtain ⟨g1, g2⟩ := hg m hm z.2
      refine ⟨fun f f1 f2 _ => ?_, fun o o1 o2 => ?_⟩
      · show I (if (5 * q + m) / 5 = q then c ((5 * q + m) % 5) else ra (5 * q + m)) f = _
        rw [rp m hm]; exact g1 f f1 f2
      · omega
    · have z' := lo q m e z
      refine ⟨fun f f1 f2 f3 => ?_, fun o o1 o2 => ?_⟩
      · show I (if (5 * q + m) / 5 = p then c ((5 * q + m) % 5) else ra (5 * q + m)) f = _
        rw [ro q m e hm, s2 q m e hm]; exact (h.lg q m hq hm z').1 f f1 f2 (fun y y2 => f3 y (hk _ y2))
      · have b1 : zb σ' (5 * q + m) = zb σ (5 * q + m) := by unfold zb; rw [s2 q m e hm]
        have b2 : ze σ' (5 * q + m) = ze σ (5 * q + m) := by unfold ze; rw [s2 q m e hm]
        rw [b1] at o1; rw [b2] at o2
        show ∃ a, p2 Q (v 1) p (some b) (T (if (5 * q + m) / 5 = p then c ((5 * q + m) % 5) else ra (5 * q + m)) 0) (o % 60) = some a ∧ _
        rw [ro q m e hm, nk _ (by rw [(h.rS hq hm z').2]; decide), s3 q m e hm]
        exact (h.lg q m hq hm z').2 o o1 o2
  · rw [nk _ (by rw [h.ct.k 0 (by decide) rfl]; decide)]
    exact h.sn' (fun _ _ _ => rfl) (fun i => s1 16 i (by omega))
  · refine ⟨fun q r hq hr' y1 y2 y3 => ?_, fun q m r o hq hm hr' ho y1 y2 y3 => ?_⟩
    · by_cases e : q = p
      · by_cases e2 : r = p
        · rw [e, e2]
        · rw [e, va_up_self, va_up_ne _ _ e2] at y3
          rw [s1 2 r (fun y => e2 y.2)] at y2
          exact absurd y3.symm (a1 r hr' y2)
      · rw [s1 2 q (fun y => e y.2)] at y1
        by_cases e2 : r = p
        · rw [e2, va_up_self, va_up_ne _ _ e] at y3
          exact absurd y3 (a1 q hq y1)
        · rw [s1 2 r (fun y => e2 y.2)] at y2
          rw [va_up_ne _ _ e, va_up_ne _ _ e2] at y3
          exact h.ap.1 q r hq hr' y1 y2 y3
    · have y3 : (if (5 * q + m) / 5 = p then c ((5 * q + m) % 5) else ra (5 * q + m)) = (if (5 * r + o) / 5 = p then c ((5 * r + o) % 5) else ra (5 * r + o)) ∨ T (if (5 * q + m) / 5 = p then c ((5 * q + m) % 5) else ra (5 * q + m)) 0 = T (if (5 * r + o) / 5 = p then c ((5 * r + o) % 5) else ra (5 * r + o)) 0 := y3
      by_cases e : q = p
      · subst e
        rw [rp m hm] at y3
        by_cases e2 : r = q
        · subst e2
          rw [rp o ho] at y3
          exact ⟨rfl, a3 m o hm ho y1.2 y2.2 y3⟩
        · rw [ro r o e2 ho] at y3
          have := a2 r o m hr' ho (lo r o e2 y2) hm y1.2
          rcases y3 with y | y
          · exact absurd y.symm this.1
          · exact absurd y.symm this.2
      · rw [ro q m e hm] at y3
        by_cases e2 : r = p
        · subst e2
          rw [rp o ho] at y3
          have := a2 q m o hq hm (lo q m e y1) ho y2.2
          rcases y3 with y | y
          · exact absurd y this.1
          · exact absurd y this.2
        · rw [ro r o e2 ho] at y3
          exact h.ap.2 q m r o hq hm hr' ho (lo q m e y1) (lo r o e2 y2) y3
end XC
theorem sp_fm_n {x : Int32} (h : 0 ≤ x.toInt) : (sp_fm x).toNatClampNeg = x.toNatClampNeg % 60 := by
  have h1 := xrem60 x
  have hx : 0 ≤ x ^^^ 60 := (xsg x).mpr (by rw [xk_le, xk_0]; exact h)
  unfold sp_fm
  rw [if_pos hx, clT, clT, h1, Int.tmod_eq_emod_of_nonneg h]
  omega
/-- numbers of a log at rest -/
def LN (x : Nat → Int32) : Prop := 0 ≤ (x 1).toInt ∧ (x 1).toInt ≤ (x 2).toInt ∧ (x 2).toInt ≤ (x 1).toInt + 60 ∧ (x 2).toInt < 2000
theorem zb_le {σ : SG} {j : Nat} {y : Int32} (h : (σ.2.1 j 1).toInt ≤ y.toInt) : zb σ j ≤ y.toNatClampNeg := by unfold zb; rw [clT, clT]; omega
theorem lt_ze {σ : SG} {j : Nat} {y : Int32} (h0 : 0 ≤ y.toInt) (h : y.toInt < (σ.2.1 j 2).toInt) : y.toNatClampNeg < ze σ j := by unfold ze; rw [clT, clT]; omega
theorem ze_le {σ : SG} {j : Nat} {y : Int32} (h : (σ.2.1 j 2).toInt ≤ y.toInt) : ze σ j ≤ y.toNatClampNeg := by unfold ze; rw [clT, clT]; omega
/-- entryAt: null, or the record's Entry -/
def EAp (L : List Nat) (K : Nat → Nat) (I : Nat → Nat → Int32) (σ : SG) (j : Nat) (o : Int32) (r : Option Nat) : Prop :=
  (¬ ((σ.2.1 j 1).toInt ≤ o.toInt ∧ o.toInt < (σ.2.1 j 2).toInt) ∧ r = none) ∨ ∃ b, r = some b ∧ (b ∈ L ∧ K b = 0) ∧ ((σ.2.1 j 1).toInt ≤ o.toInt ∧ o.toInt < (σ.2.1 j 2).toInt) ∧ ∀ f, f < 8 → I b f = σ.2.2 j o.toNatClampNeg f
/-- what the records of a log may be -/
def RK (σ : SG) (j : Nat) : Prop := ∀ o, zb σ j ≤ o → o < ze σ j → (σ.2.2 j o 1 = 0 ∨ σ.2.2 j o 1 = 1 ∨ σ.2.2 j o 1 = 2) ∧ (σ.2.2 j o 7 = 0 ∨ σ.2.2 j o 7 = 1) ∧ (σ.2.2 j o 7 = 1 → σ.2.2 j o 1 = 0)
theorem ite1_0 {P : Prop} [Decidable P] {r : Int32} (h : r = if P then 1 else 0) (h0 : r = 0) : ¬ P := fun q => by
  rw [if_pos q, h0] at h
  exact absurd h (by decide)
theorem ite1_1 {P : Prop} [Decidable P] {r : Int32} (h : r = if P then 1 else 0) (h0 : ¬ r = 0) : P := by
  by_cases q : P
  · exact q
  · rw [if_neg q] at h; exact absurd h h0
theorem RK.pos {σ : SG} {j o : Nat} (h : RK σ j) (h1 : zb σ j ≤ o) (h2 : o < ze σ j) (h3 : ¬ σ.2.2 j o 1 = 0) : 0 < σ.2.2 j o 1 := by
  rcases (h o h1 h2).1 with q | q | q
  · exact absurd q h3
  · rw [q]; decide
  · rw [q]; decide
theorem RK.bd {σ : SG} {j o : Nat} (h : RK σ j) (h1 : zb σ j ≤ o) (h2 : o < ze σ j) (h3 : ¬ σ.2.2 j o 7 = 0) : σ.2.2 j o 7 = 1 := by
  rcases (h o h1 h2).2.1 with q | q
  · exact absurd q h3
  · exact q
/-- nextSeq -/
def oNq (σ : SG) (j : Nat) (k g : Int32) : Int32 := match fD (pDt σ j k g) (zb σ j) (ze σ j - zb σ j) with
  | none => 0
  | some q => σ.2.2 j q 4 + 1
theorem lvj_sA {σ : SG} {k q p n : Nat} {x : Int32} (h : lvj σ p n) (h2 : ¬ k = 2) (h3 : ¬ k = 3) : lvj (sA σ k q x) p n := by
  unfold lvj at h ⊢
  rw [sA_n (fun z => h2 z.symm), sA_n (fun z => h3 z.symm)]
  exact h
theorem slot_free {σ : SG} {j : Nat} (h1 : 0 ≤ (σ.2.1 j 1).toInt) (h2 : (σ.2.1 j 1).toInt ≤ (σ.2.1 j 2).toInt) (h3 : (σ.2.1 j 2).toInt < (σ.2.1 j 1).toInt + 60) : ∀ o, zb σ j ≤ o → o < ze σ j → ¬ o % 60 = ze σ j % 60 := by
  intro o ho1 ho2
  unfold zb at ho1
  unfold ze at ho2 ⊢
  rw [clT] at ho1 ho2 ⊢
  omega
/-- dropBefore, loseUnflushed -/
def oDb (σ : SG) (j : Nat) (o : Int32) : SG := sG (sG σ j 1 (imx (σ.2.1 j 1) o)) j 4 (imx (σ.2.1 j 4) (imx (σ.2.1 j 1) o))
def oLu (σ : SG) (j : Nat) (kp : Int32) : SG := sG (sG σ j 2 (σ.2.1 j 4 + imn kp (σ.2.1 j 2 - σ.2.1 j 4))) j 3 (imn (σ.2.1 j 3) (σ.2.1 j 4 + imn kp (σ.2.1 j 2 - σ.2.1 j 4)))
theorem le_ze {σ : SG} {j : Nat} {y : Int32} (h : y.toInt ≤ (σ.2.1 j 2).toInt) : y.toNatClampNeg ≤ ze σ j := by unfold ze; rw [clT, clT]; omega
theorem of_lt_ze {σ : SG} {j : Nat} {y : Int32} (h0 : 0 ≤ y.toInt) (h : y.toNatClampNeg < ze σ j) : y.toInt < (σ.2.1 j 2).toInt := by unfold ze at h; rw [clT, clT] at h; omega
/-- agreeWith -/
def oA1 (σ : SG) (F l : Nat) : SG := if σ.2.1 l 1 ≤ σ.2.1 F 2 then σ else sG (sG σ F 1 (σ.2.1 l 1)) F 2 (σ.2.1 l 1)
def oA2 (τ : SG) (F l : Nat) : SG := sG (sG τ F 2 (nI (oPt τ F l))) F 4 (imn (τ.2.1 F 4) (nI (oPt τ F l)))
/-- replicaAt: null, or the node's log -/
def RAp (ra : Nat → Nat) (σ : SG) (P : Nat) (x : Int32) (r : Option Nat) : Prop := (r = none ∧ ∀ n, n < 5 → x = nI n → ¬ lvj σ P n) ∨ ∃ n, n < 5 ∧ x = nI n ∧ lvj σ P n ∧ r = some (ra (5 * P + n))
