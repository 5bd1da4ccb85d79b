set_option maxHeartbeats 4000000 in
set_option maxRecDepth 100000 in
/-- Log() -/
theorem c_X6_init (l : Launch) (dC : Nat → ClassId) (dI : Nat → Nat → Nat) (h0 sz : Nat)  : Met l yX6_init wsX6_init ({ frames := 1, cells := 1, slots := 640, locals := 12 }) (va_Pc [.ref h0] (fun U => U.heap.size = sz ∧ va_P (dC, dI) vwCl [(h0, .inr (6, [.null, .int 0, .int 0, .int 0, .int 0, .int 0, .int 0]))] U.heap ∧ va_K (dC, dI) vwCl [] U ∧ va_D (fun _ => True) [(h0, .inr (6, [.null, .int 0, .int 0, .int 0, .int 0, .int 0, .int 0]))])) (va_Qv (fun _ : Unit => True) (fun _ t => ∃ (qa : Nat), ∃ (ca : ClassId), va_P (dC, dI) vwCl [(h0, .inr (6, [.ref qa, .int 0, .int 0, .int 0, .int 0, .int 0, .int 0])), (qa, .inl (ca, 640, .inl (fun _ => 0)))] t.heap ∧ va_K (dC, dI) vwCl [(ca, .int)] t ∧ va_D (va_A [(h0, .inr (6, [.null, .int 0, .int 0, .int 0, .int 0, .int 0, .int 0]))] sz) [(h0, .inr (6, [.ref qa, .int 0, .int 0, .int 0, .int 0, .int 0, .int 0])), (qa, .inl (ca, 640, .inl (fun _ => 0)))]) (va_A [(h0, .inr (6, [.null, .int 0, .int 0, .int 0, .int 0, .int 0, .int 0]))] sz)) 1 640 (va_A [(h0, .inr (6, [.null, .int 0, .int 0, .int 0, .int 0, .int 0, .int 0]))] sz) := by
  refine Met.ofW (cc := cX6_init) (maxL := 1) (ret := none) (by decide) rfl ?_
  intro p e s m args below meth c s₁ B hml hv
  obtain ⟨rfl, hsz, hP, hK, hD0⟩ := hv
  have hx := B.exec
  have hb := B.bytes
  have hr := B.returns
  have hts := atoms_spec (ws := wsX6_init) B.pre
  have hown : s.vm.findClass RX6 = some m.cls := findClass_of_methodNamed B.named
  have hlocks := B.notSynchronized
  have hi6 : ∀ w ∈ wsX60, w ∈ wsX6_init := by decide +kernel
  have hl := lv_entry ([.ref h0]) (n := 1) (Nat.le_of_ble_eq_true rfl)
  rw [lg_entry_eq]
  generalize (lg_sl ([.ref h0]) ++ List.replicate (1 - (lg_sl ([.ref h0])).length) Slot.unset).toArray = ls at hl ⊢
  have hl : lv_has ls 1 [(0, .ref h0)] := hl
  have hin : meth.name = "<init>" := (name_of_methodNamed B.named B.method).1
  subst hsz
  have hD := hD0.self (sz := s.heap.size)
  generalize hAe : va_A [(h0, .inr (6, [.null, .int 0, .int 0, .int 0, .int 0, .int 0, .int 0]))] s.heap.size = A at hD ⊢
  have hA : ∀ q : Nat, s.heap.size ≤ q → A q := fun q h => by rw [← hAe]; exact Or.inr h
  have hS : va_S A s.heap s.heap [] := va_S.rf
  refine lv_aload_n hx hb dX6_init_0 rfl (lv_at hl 0 rfl) ?_
  refine W.objInit hx hb hown (hts (.methodLink RX6 3 objectInit) (by decide +kernel)) (hts (.instanceMethod objectInit) (by decide +kernel)) (hts _ (List.mem_of_getElem? (i := 3) rfl)) rfl (by rw [hml]; exact hl.1) rfl dX6_init_1 (Nat.le_of_ble_eq_true rfl) (Nat.le_of_ble_eq_true rfl) ?_
  refine W.eq (g2 := F0 m 4 ls []) rfl ?_
  refine lv_aload_n hx hb dX6_init_4 rfl (lv_at hl 0 rfl) ?_
  refine lv_sipush (v := 640) hx hb dX6_init_5 (by decide) ?_
  refine va_newa (atype := .int) (ty := .int) (n := 640) (N' := 640) (a0 := (640, .inl (fun _ => 0))) hx hb (hts (.arrayClass .int) (by decide +kernel)) rfl hK hP hD hS hA (fun _ => rfl) (by decide) (by decide) (by decide) (Nat.le_of_ble_eq_true rfl) (Nat.le_of_ble_eq_true rfl) dX6_init_8 (fun q597 cA598 H hK hP hD hS => ?_)
  have hP : va_P (dC, dI) vwCl [(h0, .inr (6, [.null, .int 0, .int 0, .int 0, .int 0, .int 0, .int 0])), (q597, .inl (cA598, 640, .inl (fun _ => 0)))] H := hP
  have hD : va_D A [(h0, .inr (6, [.null, .int 0, .int 0, .int 0, .int 0, .int 0, .int 0])), (q597, .inl (cA598, 640, .inl (fun _ => 0)))] := hD
  have hK : va_K (dC, dI) vwCl [(cA598, .int)] s := hK
  refine W.widen (k := 1) (n := 640) (by omega) (by omega) ?_
  refine va_putF (D := (dC, dI)) (ci := 6) (v := .ref q597) (ty := (.array .int)) (C := RX6) (T := TX6) (N := 7) hx hb hts hi6 tyX6 tyX6_ok nmX6 hown hK hP hD hS 0 rfl rfl 0 (by decide) (hts (.fieldLink RX6 9 "TallyLogsModel$Log" "cell" "[I") (by decide +kernel)) (fun _ h9 => h9) rfl hin rfl (by decide +kernel) rfl rfl (Nat.le_of_ble_eq_true rfl) dX6_init_10 (fun H locs hP hD hS => ?_)
  have hP : va_P (dC, dI) vwCl [(h0, .inr (6, [.ref q597, .int 0, .int 0, .int 0, .int 0, .int 0, .int 0])), (q597, .inl (cA598, 640, .inl (fun _ => 0)))] H := hP
  have hD : va_D A [(h0, .inr (6, [.ref q597, .int 0, .int 0, .int 0, .int 0, .int 0, .int 0])), (q597, .inl (cA598, 640, .inl (fun _ => 0)))] := hD
  have hP9 := hP.sub (ws' := [(h0, .inr (6, [.ref q597, .int 0, .int 0, .int 0, .int 0, .int 0, .int 0])), (q597, .inl (cA598, 640, .inl (fun _ => 0)))]) [0, 1] rfl
  have hD9 := hD.sub (ws' := [(h0, .inr (6, [.ref q597, .int 0, .int 0, .int 0, .int 0, .int 0, .int 0])), (q597, .inl (cA598, 640, .inl (fun _ => 0)))]) [0, 1] (by decide +kernel) rfl
  have hK9 := hK.sub (tys' := [(cA598, .int)]) [0] rfl
  exact W.vret hx hb hr (fun t ht hW => ⟨⟨(), rfl, trivial, q597, cA598, by rw [ht]; exact hP9, va_K.moved hW.alike hK9, hD9⟩, hS.F ht⟩) hS.2.2 dX6_init_13
def mO (w : Nat → Nat) : Nat → Option Nat := (va_up (va_up (va_up (va_up (fun _ => none) 0 (some (w 17))) 1 (some (w 18))) 2 (some (w 19))) 3 (some (w 20)))
def mR0 (w : Nat → Nat) : Nat → Option Nat := (va_up (va_up (va_up (va_up (va_up (fun _ => none) 0 (some (w 21))) 1 (some (w 22))) 2 (some (w 23))) 3 (some (w 24))) 4 (some (w 25)))
def mR1 (w : Nat → Nat) : Nat → Option Nat := (va_up (va_up (va_up (va_up (va_up (fun _ => none) 0 (some (w 26))) 1 (some (w 27))) 2 (some (w 28))) 3 (some (w 29))) 4 (some (w 30)))
def mR2 (w : Nat → Nat) : Nat → Option Nat := (va_up (va_up (va_up (va_up (va_up (fun _ => none) 0 (some (w 31))) 1 (some (w 32))) 2 (some (w 33))) 3 (some (w 34))) 4 (some (w 35)))
def mR3 (w : Nat → Nat) : Nat → Option Nat := (va_up (va_up (va_up (va_up (va_up (fun _ => none) 0 (some (w 36))) 1 (some (w 37))) 2 (some (w 38))) 3 (some (w 39))) 4 (some (w 40)))
/-- the model as it is made: 61 cells -/
abbrev myW (w : Nat → Nat) (cz ci cO cW : ClassId) : va_W := [(w 0, .inr (7, [.ref (w 1), .ref (w 2), .ref (w 3), .ref (w 4), .ref (w 5), .ref (w 6), .ref (w 7), .ref (w 8), .ref (w 9), .ref (w 10), .ref (w 11), .ref (w 12), .ref (w 13), .ref (w 14), .ref (w 15), .ref (w 16), .int 31, .int 0])), (w 1, .inl (cO, 4, .inr (.inr (.inr (.inr (mO w)))))), (w 2, .inl (cz, 4, .inl (fun _ => 0))), (w 3, .inl (ci, 4, .inl (fun _ => 0))), (w 4, .inl (ci, 4, .inl (spF (fun _ => 0) 4 (-1)))), (w 5, .inl (ci, 4, .inl (fun _ => 0))), (w 6, .inl (ci, 4, .inl (fun _ => 0))), (w 7, .inl (ci, 4, .inl (fun _ => 0))), (w 8, .inl (ci, 6, .inl (spF (fun _ => 0) 6 (-1)))), (w 9, .inl (ci, 6, .inl (fun _ => 0))), (w 10, .inl (ci, 6, .inl (fun _ => 0))), (w 11, .inl (ci, 6, .inl (fun _ => 0))), (w 12, .inl (ci, 6, .inl (fun _ => 0))), (w 13, .inl (ci, 4, .inl (fun _ => 0))), (w 14, .inl (ci, 4, .inl (fun _ => 0))), (w 15, .inl (ci, 16, .inl (fun _ => 0))), (w 16, .inl (ci, 6, .inl (fun _ => 0))), (w 17, .inl (cW, 5, .inr (.inr (.inr (.inr (mR0 w)))))), (w 18, .inl (cW, 5, .inr (.inr (.inr (.inr (mR1 w)))))), (w 19, .inl (cW, 5, .inr (.inr (.inr (.inr (mR2 w)))))), (w 20, .inl (cW, 5, .inr (.inr (.inr (.inr (mR3 w)))))), (w 21, .inr (6, [.ref (w 41), .int 0, .int 0, .int 0, .int 0, .int 0, .int 0])), (w 22, .inr (6, [.ref (w 42), .int 0, .int 0, .int 0, .int 0, .int 0, .int 0])), (w 23, .inr (6, [.ref (w 43), .int 0, .int 0, .int 0, .int 0, .int 0, .int 0])), (w 24, .inr (6, [.ref (w 44), .int 0, .int 0, .int 0, .int 0, .int 0, .int 0])), (w 25, .inr (6, [.ref (w 45), .int 0, .int 0, .int 0, .int 0, .int 0, .int 0])), (w 26, .inr (6, [.ref (w 46), .int 0, .int 0, .int 0, .int 0, .int 0, .int 0])), (w 27, .inr (6, [.ref (w 47), .int 0, .int 0, .int 0, .int 0, .int 0, .int 0])), (w 28, .inr (6, [.ref (w 48), .int 0, .int 0, .int 0, .int 0, .int 0, .int 0])), (w 29, .inr (6, [.ref (w 49), .int 0, .int 0, .int 0, .int 0, .int 0, .int 0])), (w 30, .inr (6, [.ref (w 50), .int 0, .int 0, .int 0, .int 0, .int 0, .int 0])), (w 31, .inr (6, [.ref (w 51), .int 0, .int 0, .int 0, .int 0, .int 0, .int 0])), (w 32, .inr (6, [.ref (w 52), .int 0, .int 0, .int 0, .int 0, .int 0, .int 0])), (w 33, .inr (6, [.ref (w 53), .int 0, .int 0, .int 0, .int 0, .int 0, .int 0])), (w 34, .inr (6, [.ref (w 54), .int 0, .int 0, .int 0, .int 0, .int 0, .int 0])), (w 35, .inr (6, [.ref (w 55), .int 0, .int 0, .int 0, .int 0, .int 0, .int 0])), (w 36, .inr (6, [.ref (w 56), .int 0, .int 0, .int 0, .int 0, .int 0, .int 0])), (w 37, .inr (6, [.ref (w 57), .int 0, .int 0, .int 0, .int 0, .int 0, .int 0])), (w 38, .inr (6, [.ref (w 58), .int 0, .int 0, .int 0, .int 0, .int 0, .int 0])), (w 39, .inr (6, [.ref (w 59), .int 0, .int 0, .int 0, .int 0, .int 0, .int 0])), (w 40, .inr (6, [.ref (w 60), .int 0, .int 0, .int 0, .int 0, .int 0, .int 0])), (w 41, .inl (ci, 640, .inl (fun _ => 0))), (w 42, .inl (ci, 640, .inl (fun _ => 0))), (w 43, .inl (ci, 640, .inl (fun _ => 0))), (w 44, .inl (ci, 640, .inl (fun _ => 0))), (w 45, .inl (ci, 640, .inl (fun _ => 0))), (w 46, .inl (ci, 640, .inl (fun _ => 0))), (w 47, .inl (ci, 640, .inl (fun _ => 0))), (w 48, .inl (ci, 640, .inl (fun _ => 0))), (w 49, .inl (ci, 640, .inl (fun _ => 0))), (w 50, .inl (ci, 640, .inl (fun _ => 0))), (w 51, .inl (ci, 640, .inl (fun _ => 0))), (w 52, .inl (ci, 640, .inl (fun _ => 0))), (w 53, .inl (ci, 640, .inl (fun _ => 0))), (w 54, .inl (ci, 640, .inl (fun _ => 0))), (w 55, .inl (ci, 640, .inl (fun _ => 0))), (w 56, .inl (ci, 640, .inl (fun _ => 0))), (w 57, .inl (ci, 640, .inl (fun _ => 0))), (w 58, .inl (ci, 640, .inl (fun _ => 0))), (w 59, .inl (ci, 640, .inl (fun _ => 0))), (w 60, .inl (ci, 640, .inl (fun _ => 0)))]
