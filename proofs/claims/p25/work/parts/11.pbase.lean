/-! contracts over the pool: their start -/
abbrev pTy (cy : Nat → ClassId) : List (ClassId × FieldType) := [(cy 7, .int), (cy 8, .object "TallyLogs$Entry"), (cy 9, .object "TallyLogs$Group"), (cy 10, .object "TallyLogs$Partition"), (cy 11, .object "TallyLogs$Producer"), (cy 12, .object "TallyLogs$Replica")]
/-- words that no list holds: links across the nest, arrays that are made -/
def xN (U : State) : Prop := va_Nw (.methodLinkNest RX1 28 yX5_contains "TallyLogs") U ∧ va_Nw (.methodLinkNest RX2 30 yX5_leastOf "TallyLogs") U ∧ va_Nw (.methodLinkNest RX2 37 yX5_contains "TallyLogs") U ∧ va_AO "TallyLogs$Replica" U ∧ va_AO "TallyLogs$Entry" U
theorem xN.same {U : State} {g : JFrame} {mk : MethodId} {a : Array Value} (h : xN U) : xN (U.calling g mk a) := ⟨va_Nw.same rfl (rfl : U.vm = (U.calling g mk a).vm) h.1, va_Nw.same rfl (rfl : U.vm = (U.calling g mk a).vm) h.2.1, va_Nw.same rfl (rfl : U.vm = (U.calling g mk a).vm) h.2.2.1, va_AO.moved (u := U) (U := U.calling g mk a) (Vm.Alike.refl U.vm) h.2.2.2.1, va_AO.moved (u := U) (U := U.calling g mk a) (Vm.Alike.refl U.vm) h.2.2.2.2⟩
theorem xN.warm {s U : State} (hW : s.WarmedH U.vm) (h : xN s) : xN U := ⟨va_Nw.warmM hW h.1, va_Nw.warmM hW h.2.1, va_Nw.warmM hW h.2.2.1, va_AO.moved hW.alike h.2.2.2.1, va_AO.moved hW.alike h.2.2.2.2⟩
abbrev pB (dC : Nat → ClassId) (dI : Nat → Nat → Nat) (cy : Nat → ClassId) (L : List Nat) (F : Nat → va_E) (U : State) : Prop := va_P (dC, dI) vwCl (va_pl L F) U.heap ∧ va_K (dC, dI) vwCl (pTy cy) U ∧ xN U
theorem pb_blind {dC : Nat → ClassId} {dI : Nat → Nat → Nat} {cy : Nat → ClassId} {L : List Nat} {F : Nat → va_E} {av : List Value} : FrameBlind (va_Pc av (pB dC dI cy L F)) := fun a U g mk q => by
  obtain ⟨q0, qP, qK, qN⟩ := q
  exact ⟨q0, qP, va_K.moved (u := U) (U := U.calling g mk a) (Vm.Alike.refl U.vm) qK, qN.same⟩
theorem pb_pre {dC : Nat → ClassId} {dI : Nat → Nat → Nat} {cy : Nat → ClassId} {L : List Nat} {F : Nat → va_E} {s U : State} {H : Heap} (hP : va_P (dC, dI) vwCl (va_pl L F) H) (hK : va_K (dC, dI) vwCl (pTy cy) s) (hN : xN s) (hU : U.heap = H) (hW : s.WarmedH U.vm) : pB dC dI cy L F U := ⟨by rw [hU]; exact hP, va_K.moved hW.alike hK, hN.warm hW⟩
/-- a contract that writes, but makes nothing: its start -/
abbrev pW (dC : Nat → ClassId) (dI : Nat → Nat → Nat) (cy : Nat → ClassId) (L : List Nat) (F : Nat → va_E) (sz : Nat) (U : State) : Prop := U.heap.size = sz ∧ pB dC dI cy L F U ∧ va_D (fun _ => True) (va_pl L F)
theorem pw_blind {dC : Nat → ClassId} {dI : Nat → Nat → Nat} {cy : Nat → ClassId} {L : List Nat} {F : Nat → va_E} {sz : Nat} {av : List Value} : FrameBlind (va_Pc av (pW dC dI cy L F sz)) := fun a U g mk q => by
  obtain ⟨q0, q1, ⟨qP, qK, qN⟩, qD⟩ := q
  exact ⟨q0, q1, ⟨qP, va_K.moved (u := U) (U := U.calling g mk a) (Vm.Alike.refl U.vm) qK, qN.same⟩, qD⟩
theorem pw_pre {dC : Nat → ClassId} {dI : Nat → Nat → Nat} {cy : Nat → ClassId} {L : List Nat} {F : Nat → va_E} {A : Nat → Prop} {s U : State} {H : Heap} (hP : va_P (dC, dI) vwCl (va_pl L F) H) (hK : va_K (dC, dI) vwCl (pTy cy) s) (hN : xN s) (hD : va_D A (va_pl L F)) (hU : U.heap = H) (hW : s.WarmedH U.vm) : pW dC dI cy L F H.size U := ⟨by rw [hU], pb_pre hP hK hN hU hW, hD.weaken (fun _ _ _ _ => trivial)⟩
theorem pfree {A : Nat → Prop} {a : va_W} {H0 H : Heap} {locs : List Loc} (hD : va_D A a) (hS : va_S A H0 H locs) (hA : ∀ q, H0.size ≤ q → A q) : ∀ q, va_A a H.size q → A q := by
  intro q h
  rcases h with ⟨k, e, h⟩ | h
  · exact hD.2 k (q, e) h
  · exact hA q (Nat.le_trans hS.1 h)
