/-! four rows of five references each, made by one multianewarray -/
def xm_i (cW : ClassId) : Cell := { cls := cW, slots := Array.replicate 5 .null, vm := .none }
def xm_o (cO : ClassId) (h : Nat) : Nat → Cell
  | 0 => { cls := cO, slots := Array.replicate 4 .null, vm := .none }
  | i + 1 => (xm_o cO h i).setSlot i (.ref (h + 1 + i))
def xm_s (s : State) (cO cW : ClassId) : Nat → State
  | 0 => s.pushCell (xm_o cO s.heap.size 0)
  | i + 1 => ((xm_s s cO cW i).pushCell (xm_i cW)).setCell s.heap.size (xm_o cO s.heap.size (i + 1))
theorem xm_o_is (cO : ClassId) (h : Nat) : ∀ i, (xm_o cO h i).cls = cO ∧ (xm_o cO h i).vm = .none ∧ (xm_o cO h i).slots.size = 4
  | 0 => ⟨rfl, rfl, by simp [xm_o]⟩
  | i + 1 => by
    obtain ⟨a, b, d⟩ := xm_o_is cO h i
    exact ⟨by simp [xm_o, Cell.setSlot, a], by simp [xm_o, Cell.setSlot, b], by simp [xm_o, Cell.setSlot, d]⟩
theorem xm_s_is (s : State) (cO cW : ClassId) : ∀ i, (xm_s s cO cW i).heap.size = s.heap.size + 1 + i ∧ (xm_s s cO cW i).heap[s.heap.size]? = some (xm_o cO s.heap.size i) ∧ (xm_s s cO cW i).vm = s.vm ∧ (xm_s s cO cW i).slotsUsed = s.slotsUsed + 4 + 5 * i
  | 0 => ⟨by simp [xm_s], by simp [xm_s], rfl, by simp [xm_s, xm_o]⟩
  | i + 1 => by
    obtain ⟨a, b, d, u⟩ := xm_s_is s cO cW i
    have hlt : s.heap.size < (xm_s s cO cW i).heap.size := by omega
    have hb' : ((xm_s s cO cW i).pushCell (xm_i cW)).heap[s.heap.size]? = some (xm_o cO s.heap.size i) := by rw [State.heap_pushCell_of_lt (h := hlt)]; exact b
    refine ⟨?_, State.heap_setCell_self hb', by simp [xm_s, d], ?_⟩
    · simp [xm_s, State.setCell, a]; omega
    · simp [xm_s, u, xm_i]; omega
theorem xm_s_top (s : State) (f : JFrame) (cO cW : ClassId) : ∀ i, xm_s (s.setTop f) cO cW i = (xm_s s cO cW i).setTop f
  | 0 => rfl
  | i + 1 => by simp only [xm_s, xm_s_top s f cO cW i, State.heap_setTop, State.pushCell_setTop, State.setCell_setTop]
theorem xm_s_old (s : State) (cO cW : ClassId) {a : Addr} (ha : a < s.heap.size) : ∀ i, (xm_s s cO cW i).heap[a]? = s.heap[a]?
  | 0 => State.heap_pushCell_of_lt _ _ ha
  | i + 1 => by
    have f1 := (xm_s_is s cO cW i).1
    have hlt : a < (xm_s s cO cW i).heap.size := Nat.lt_of_lt_of_le ha (by rw [f1]; omega)
    show (((xm_s s cO cW i).pushCell (xm_i cW)).setCell s.heap.size _).heap[a]? = _
    rw [State.heap_setCell_other (Nat.ne_of_gt ha), State.heap_pushCell_of_lt (h := hlt)]
    exact xm_s_old s cO cW ha i
theorem xm_s_row (s : State) (cO cW : ClassId) : ∀ i j, j < i → (xm_s s cO cW i).heap[s.heap.size + 1 + j]? = some (xm_i cW)
  | 0, _, h => absurd h (Nat.not_lt_zero _)
  | i + 1, j, h => by
    have f1 := (xm_s_is s cO cW i).1
    show (((xm_s s cO cW i).pushCell (xm_i cW)).setCell s.heap.size _).heap[s.heap.size + 1 + j]? = _
    rw [State.heap_setCell_other (show s.heap.size ≠ s.heap.size + 1 + j by omega)]
    by_cases hj : j < i
    · have hlt : s.heap.size + 1 + j < (xm_s s cO cW i).heap.size := by rw [f1]; omega
      rw [State.heap_pushCell_of_lt (h := hlt)]
      exact xm_s_row s cO cW i j hj
    · have e : j = i := by omega
      subst e
      rw [← f1]
      exact State.heap_pushCell_size _ _
section XM1
variable {E : CtlPost} {e : Env} {d : Bool} {acts : List Action} {s : State}
theorem xm_new {cA comp : ClassId} {k : Class} {type : FieldType} {len : Nat} (hk : s.vm.classes[cA]? = some k) (hkind : k.kind = .array comp type) (hr : type.isReference = true) (hlimit : ¬ len > e.platform.arrayLengthLimit) (hheap : ¬ len * componentBytes type > e.platform.maxHeapBytes) {Q : Addr → Pre}
    (h1 : s.heap.size < e.platform.maxCells) (h2 : s.slotsUsed + len ≤ e.platform.maxSlots) (hq : Q s.heap.size d acts (s.pushCell { cls := cA, slots := Array.replicate len .null, vm := .none })) : wp (Jvm.newArray cA len .null) Q E e d acts s := by
  have hfits : ∀ i v, (Array.replicate len Value.null)[i]? = some v → s.fitsSlot cA .none i v = true := by
    intro i v hv
    simp only [Array.getElem?_replicate] at hv
    split at hv
    · cases hv
      cases type <;> simp [FieldType.isReference] at hr <;> simp [State.fitsSlot, State.slotType?, hk, hkind, fits]
    · cases hv
  have hda : allocActs (Array.replicate len Value.null) s.heap.size acts = acts := by
    have hall : ((Array.replicate len Value.null).all (·.isDefault)) = true := by
      rw [Array.all_replicate]; split <;> simp [Value.isDefault]
    unfold allocActs; rw [if_pos hall]
  simp only [Jvm.newArray, Jvm.arrayFits, wp_bind', W.ask, W.ite, hlimit, if_false, wp_pure', W.theClass, hk, hkind, hheap, W.alloc, W.stop, Option.some.injEq, exists_eq_left', Array.size_replicate, hda]
  rw [if_neg (by omega)]
  exact ⟨h1, h2, hfits, hq⟩
theorem xm_make {cO cW cC : ClassId} {kO kW : Class} {C : String} (hkO : s.vm.classes[cO]? = some kO) (hO : kO.kind = .array cW (.array (.object C))) (hkW : s.vm.classes[cW]? = some kW) (hW : kW.kind = .array cC (.object C))
    (hl : 5 ≤ e.platform.arrayLengthLimit) (hh : 20 ≤ e.platform.maxHeapBytes) (hc : s.heap.size + 5 ≤ e.platform.maxCells) (hs : s.slotsUsed + 24 ≤ e.platform.maxSlots)
    {Q : Addr → Pre} (hq : ∀ d' acts', Q s.heap.size d' acts' (xm_s s cO cW 4)) : wp (Jvm.Op.multianewarray.make cO [4, 5]) Q E e d acts s := by
  rw [Jvm.Op.multianewarray.make]
  simp only [wp_bind', W.ite, show ¬ (4 : Int32) < 0 by decide, if_false, wp_pure', W.theClass, hkO, hO, Option.some.injEq, exists_eq_left']
  refine xm_new (len := 4) hkO hO rfl (by omega) (by show ¬ 4 * 4 > _; omega) (by omega) (by omega) ?_
  simp only [show ([(5 : Int32)].find? (· < 0)) = none by decide]
  rw [ite_self, wp_bind', Std.Legacy.Range.forIn_eq_forIn_range']
  show wp (forIn (List.range' 0 4 1) PUnit.unit _) _ E e d acts _
  refine wp_forIn_inv (fun rest s' => ∃ i, i ≤ 4 ∧ rest = List.range' i (4 - i) ∧ s' = xm_s s cO cW i) _ _ ⟨0, by omega, rfl, rfl⟩ ?_ ?_
  · rintro x rest s' d' acts' Q' ⟨i, hi, hli, rfl⟩ hnext
    have hlt : i < 4 := by
      rcases Nat.lt_or_ge i 4 with h | h
      · exact h
      · rw [show 4 - i = 0 by omega] at hli; simp at hli
    obtain ⟨rfl, hrest⟩ : x = i ∧ rest = List.range' (i + 1) (4 - (i + 1)) := by
      rw [show 4 - i = (4 - (i + 1)) + 1 by omega, List.range'_succ] at hli
      exact ⟨(List.cons.inj hli).1, (List.cons.inj hli).2⟩
    obtain ⟨f1, f2, f3, f4⟩ := xm_s_is s cO cW x
    obtain ⟨o1, o2, o3⟩ := xm_o_is cO s.heap.size x
    simp only [wp_bind']
    rw [Jvm.Op.multianewarray.make]
    simp only [wp_bind', W.ite, show ¬ (5 : Int32) < 0 by decide, if_false, wp_pure', W.theClass, f3, hkW, hW, Option.some.injEq, exists_eq_left']
    refine xm_new (len := 5) (by rw [f3]; exact hkW) hW rfl (by omega) (by show ¬ 5 * 4 > _; omega) (by omega) (by omega) ?_
    have hlt0 : s.heap.size < (xm_s s cO cW x).heap.size := by rw [f1]; omega
    simp only [wp_bind', W.writeLoc, wp_pure']
    refine ⟨xm_o cO s.heap.size x, by rw [State.heap_pushCell_of_lt (h := hlt0)]; exact f2, by rw [o2]; simp, by rw [o3]; exact hlt, ?_, hnext _ _ _ ⟨x + 1, hlt, hrest, ?_⟩⟩
    · rw [o1, o2]
      simp [State.fitsSlot, State.slotType?, f3, hkO, hO, fits]
    · rw [f1]; rfl
  · rintro s' d' acts' ⟨i, hi, hli, rfl⟩
    have h4 : i = 4 := by
      rcases Nat.lt_or_ge i 4 with h | h
      · rw [show 4 - i = (4 - (i + 1)) + 1 by omega, List.range'_succ] at hli; cases hli
      · omega
    subst h4
    simp only [wp_pure']
    exact hq _ _
end XM1
section XM2
variable {p : Program} {l : Launch} {e : Env} {R : Room} {s : State} {m : MethodId} {args : Array Value} {below : List Frame} {meth : Method} {c : Code} {H : Heap} {locs : List Loc} {cells slots : Nat} {Q : State → Prop}
variable {cc : ByteArray} {pc : Nat} {ls : Array Slot} {rest : List Value} {D : va_G} {cl : List vw_C} {A : Nat → Prop} {a : Nat} {tys : List (ClassId × FieldType)} {ws : va_W} {H0 : Heap}
theorem xm_stand {T : State} (X : Stand p l e R s m args below meth c T locs cells slots) (cO cW : ClassId) : ∀ i, Stand p l e R s m args below meth c (xm_s T cO cW i) (locs ++ (List.range i).map fun j => ⟨T.heap.size, j⟩) (cells + 1 + i) (slots + 4 + 5 * i)
  | 0 => by
    have h := X.pushed (xm_o cO T.heap.size 0)
    rw [(xm_o_is cO T.heap.size 0).2.2] at h
    simpa [xm_s] using h
  | i + 1 => by
    have Xi := xm_stand X cO cW i
    obtain ⟨f1, f2, f3, f4⟩ := xm_s_is T cO cW i
    have hlt0 : T.heap.size < (xm_s T cO cW i).heap.size := by rw [f1]; omega
    have hcell : ((xm_s T cO cW i).pushCell (xm_i cW)).heap[T.heap.size]? = some (xm_o cO T.heap.size i) := by rw [State.heap_pushCell_of_lt (h := hlt0)]; exact f2
    have h := (Xi.pushed (xm_i cW)).stored hcell i (.ref (T.heap.size + 1 + i))
    rw [show (xm_i cW).slots.size = 5 by simp [xm_i]] at h
    rw [show (locs ++ (List.range (i + 1)).map fun j => (⟨T.heap.size, j⟩ : Loc)) = (locs ++ (List.range i).map fun j => (⟨T.heap.size, j⟩ : Loc)) ++ [⟨T.heap.size, i⟩] by simp [List.range_succ, List.append_assoc], show slots + 4 + 5 * (i + 1) = slots + 4 + 5 * i + 5 by omega]
    exact h
/-- what the outer row holds -/
def xm_f (q : Nat) : Nat → Option Nat := va_up (va_up (va_up (va_up (fun _ => none) 0 (some (q + 1))) 1 (some (q + 2))) 2 (some (q + 3))) 3 (some (q + 4))
theorem xm_o4 (cO : ClassId) (q : Nat) : xm_o cO q 4 = vp_cell cO (4, .inr (.inr (.inr (.inr (xm_f q))))) := by
  rw [vp_cell_q]
  show (((({ cls := cO, slots := Array.replicate 4 Value.null, vm := .none } : Cell).setSlot 0 (.ref (q + 1 + 0))).setSlot 1 (.ref (q + 1 + 1))).setSlot 2 (.ref (q + 1 + 2))).setSlot 3 (.ref (q + 1 + 3)) = _
  rw [arrV_new, arrV_store, arrV_store, arrV_store, arrV_store]
  congr 1
  funext j
  by_cases h3 : j = 3
  · subst h3; rfl
  · by_cases h2 : j = 2
    · subst h2; rfl
    · by_cases h1 : j = 1
      · subst h1; rfl
      · by_cases h0 : j = 0
        · subst h0; rfl
        · simp [updV, xm_f, va_up, va_rf, h0, h1, h2, h3]
theorem xm_multi (hexec : p.tables.exec = Jvm.exec) (hb : c.code = cc) {own CA : String} {index : Nat} (hown : s.vm.findClass own = some m.cls) (hclink : (Cond.classLink own index CA).before args s = true) {cO cW cC : ClassId} {kO kW : Class} {C : String} (hfO : s.vm.findClass CA = some cO) (hkO : s.vm.classes[cO]? = some kO) (hO : kO.kind = .array cW (.array (.object C))) (hkW : s.vm.classes[cW]? = some kW) (hWk : kW.kind = .array cC (.object C))
    (hP : va_P D cl ws H) (hD : va_D A ws) (hS : va_S A H0 H locs) (hA : ∀ q, H0.size ≤ q → A q) (hcells : cells + 5 ≤ R.cells) (hslots : slots + 24 ≤ R.slots) (hdg : decode cc pc = .ok (.multianewarray index 2, 4))
    (kk : ∀ (q : Nat) (H1 : Heap) (locs1 : List Loc), va_P D cl (ws ++ [(q, .inl (cO, 4, .inr (.inr (.inr (.inr (xm_f q)))))), (q + 1, .inl (cW, 5, .inr (.inr (.inr (.inr (fun _ => none)))))), (q + 2, .inl (cW, 5, .inr (.inr (.inr (.inr (fun _ => none)))))), (q + 3, .inl (cW, 5, .inr (.inr (.inr (.inr (fun _ => none)))))), (q + 4, .inl (cW, 5, .inr (.inr (.inr (.inr (fun _ => none))))))]) H1 →
      va_D A (ws ++ [(q, .inl (cO, 4, .inr (.inr (.inr (.inr (xm_f q)))))), (q + 1, .inl (cW, 5, .inr (.inr (.inr (.inr (fun _ => none)))))), (q + 2, .inl (cW, 5, .inr (.inr (.inr (.inr (fun _ => none)))))), (q + 3, .inl (cW, 5, .inr (.inr (.inr (.inr (fun _ => none)))))), (q + 4, .inl (cW, 5, .inr (.inr (.inr (.inr (fun _ => none))))))]) → va_S A H0 H1 locs1 → W p l e R s m args below meth c H1 locs1 (cells + 5) (slots + 24) Q (F0 m (pc + 4) ls (.ref q :: rest))) :
    W p l e R s m args below meth c H locs cells slots Q (F0 m pc ls (.int 5 :: .int 4 :: rest)) := by
  intro T hT X
  have hpl : e.platform.magicAccessors = ({} : Platform).magicAccessors := by rw [X.admits.platform]
  obtain ⟨c0, hfc0, hcl⟩ := Cond.classLink_spec hown hclink e.platform hpl
  cases hfO.symm.trans hfc0
  obtain ⟨hg₁, hwarm₁, hready₁⟩ := State.classEntry (e := e) X.warmed hcl
  generalize T.vm.noted m.cls index (.cls cO) = vm₁ at hg₁ hwarm₁ hready₁
  have hal : s.vm.Alike vm₁ := hwarm₁.alike
  obtain ⟨kO₁, hkO₁, heO⟩ := hal.2.2 _ _ hkO
  obtain ⟨kW₁, hkW₁, heW⟩ := hal.2.2 _ _ hkW
  have hO₁ : kO₁.kind = .array cW (.array (.object C)) := by rw [heO]; exact hO
  have hW₁ : kW₁.kind = .array cC (.object C) := by rw [heW]; exact hWk
  have X₁ := X.noted hwarm₁
  obtain ⟨hr1, hr2⟩ := X.roomAbove hcells hslots
  have XF := xm_stand X₁ cO cW 4
  have hh1 : (T.setVm vm₁).heap = H := hT
  obtain ⟨f1, f2, f3, f4⟩ := xm_s_is (T.setVm vm₁) cO cW 4
  have fo := fun (x : Nat) (hx : x < H.size) => xm_s_old (T.setVm vm₁) cO cW (a := x) (by rw [hh1]; exact hx) 4
  have fr := fun (j : Nat) (hj : j < 4) => xm_s_row (T.setVm vm₁) cO cW 4 j hj
  rw [hh1] at f1 f2
  simp only [hh1] at fo fr
  have hin : xm_i cW = vp_cell cW (5, .inr (.inr (.inr (.inr (fun _ => none))))) := by rw [vp_cell_q]; exact arrV_new cW 5 .null
  have hP1 : va_P D cl ws (xm_s (T.setVm vm₁) cO cW 4).heap := hP.kept (fun k q hk => fo q.1 ((hP k q hk).lt))
  have hPn : va_P D cl [(H.size, .inl (cO, 4, .inr (.inr (.inr (.inr (xm_f H.size)))))), (H.size + 1, .inl (cW, 5, .inr (.inr (.inr (.inr (fun _ => none)))))), (H.size + 2, .inl (cW, 5, .inr (.inr (.inr (.inr (fun _ => none)))))), (H.size + 3, .inl (cW, 5, .inr (.inr (.inr (.inr (fun _ => none)))))), (H.size + 4, .inl (cW, 5, .inr (.inr (.inr (.inr (fun _ => none))))))] (xm_s (T.setVm vm₁) cO cW 4).heap := by
    intro k q hk
    match k, hk with
    | 0, hk => cases hk; show _ = some (vp_cell _ _); rw [f2, xm_o4]
    | 1, hk => cases hk; show _ = some (vp_cell _ _); rw [← hin]; exact fr 0 (by decide)
    | 2, hk => cases hk; show _ = some (vp_cell _ _); rw [← hin]; exact fr 1 (by decide)
    | 3, hk => cases hk; show _ = some (vp_cell _ _); rw [← hin]; exact fr 2 (by decide)
    | 4, hk => cases hk; show _ = some (vp_cell _ _); rw [← hin]; exact fr 3 (by decide)
    | k + 5, hk => simp at hk
  have hDn : va_D A [(H.size, .inl (cO, 4, .inr (.inr (.inr (.inr (xm_f H.size)))))), (H.size + 1, .inl (cW, 5, .inr (.inr (.inr (.inr (fun _ => none)))))), (H.size + 2, .inl (cW, 5, .inr (.inr (.inr (.inr (fun _ => none)))))), (H.size + 3, .inl (cW, 5, .inr (.inr (.inr (.inr (fun _ => none)))))), (H.size + 4, .inl (cW, 5, .inr (.inr (.inr (.inr (fun _ => none))))))] := by
    have key : ∀ (k : Nat) (q : Nat × va_E), ([(H.size, .inl (cO, 4, .inr (.inr (.inr (.inr (xm_f H.size)))))), (H.size + 1, .inl (cW, 5, .inr (.inr (.inr (.inr (fun _ => none)))))), (H.size + 2, .inl (cW, 5, .inr (.inr (.inr (.inr (fun _ => none)))))), (H.size + 3, .inl (cW, 5, .inr (.inr (.inr (.inr (fun _ => none)))))), (H.size + 4, .inl (cW, 5, .inr (.inr (.inr (.inr (fun _ => none))))))] : va_W)[k]? = some q → q.1 = H.size + k := by
      intro k q hk
      match k, hk with
      | 0, hk => cases hk; rfl
      | 1, hk => cases hk; rfl
      | 2, hk => cases hk; rfl
      | 3, hk => cases hk; rfl
      | 4, hk => cases hk; rfl
      | k + 5, hk => simp at hk
    refine ⟨fun i j x y hi hj hxy => ?_, fun k q hk => ?_⟩
    · have h1 := key i x hi
      have h2 := key j y hj
      omega
    · rw [key k q hk]
      exact hA _ (Nat.le_trans hS.1 (Nat.le_add_right _ _))
  have hDa := va_D.app hD hDn (fun i j x y hx hy hxy => by
    have h1 := (hP i x hx).lt
    have h2 : H.size ≤ y.1 := by
      match j, hy with
      | 0, hy => cases hy; exact Nat.le_refl _
      | 1, hy => cases hy; exact Nat.le_add_right _ _
      | 2, hy => cases hy; exact Nat.le_add_right _ _
      | 3, hy => cases hy; exact Nat.le_add_right _ _
      | 4, hy => cases hy; exact Nat.le_add_right _ _
      | j + 5, hy => simp at hy
    omega)
  have hSa : va_S A H0 (xm_s (T.setVm vm₁) cO cW 4).heap (locs ++ (List.range 4).map fun j => ⟨(T.setVm vm₁).heap.size, j⟩) := by
    refine ⟨by rw [f1]; have := hS.1; omega, fun q h1 h2 => (fo q (Nat.lt_of_lt_of_le h1 hS.1)).trans (hS.2.1 q h1 h2), fun q hq => ?_⟩
    rcases List.mem_append.mp hq with h | h
    · exact hS.2.2 q h
    · obtain ⟨j, -, rfl⟩ := List.mem_map.mp h
      show A (T.setVm vm₁).heap.size
      rw [hh1]
      exact hA _ hS.1
  obtain ⟨t, a1, b1⟩ := kk H.size _ _ (hP1.app hPn) hDa hSa _ rfl XF
  refine ⟨t, ?_, b1⟩
  jvm_step X.here [hexec, hb, hdg]
  simp only [Jvm.Op.multianewarray.sem, wp_bind', W.resolveClassAt_links (State.method?_setTop (F0 m pc ls (.int 5 :: .int 4 :: rest)) X.here.top) hg₁]
  rw [W.popN, if_neg (by decide)]
  refine ⟨F0 m pc ls (.int 5 :: .int 4 :: rest), State.topJava?_setTop' (s := T.setVm vm₁) _ X.here.top, [.int 4, .int 5], rest, rfl, rfl, ?_⟩
  simp only [List.mapM_cons, List.mapM_nil, wp_bind', wp_pure']
  have hlim : e.platform.arrayLengthLimit = 2147483645 := Launch.admits_arrayLengthLimit X.admits
  have hmax : e.platform.maxHeapBytes = 536870912 := Launch.admits_maxHeapBytes X.admits
  refine xm_make (kO := kO₁) (kW := kW₁) (cC := cC) (C := C) hkO₁ hO₁ hkW₁ hW₁ (by omega) (by omega) (by show T.heap.size + 5 ≤ _; omega) (by show T.slotsUsed + 24 ≤ _; omega) (fun d' acts' => ?_)
  have eS : ((T.setTop (F0 m pc ls (.int 5 :: .int 4 :: rest))).setVm vm₁).setTop { (F0 m pc ls (.int 5 :: .int 4 :: rest)) with stack := rest } = (T.setVm vm₁).setTop { (F0 m pc ls (.int 5 :: .int 4 :: rest)) with stack := rest } := by
    show ((T.setVm vm₁).setTop _).setTop _ = _
    rw [State.setTop_setTop]
  rw [eS, xm_s_top]
  simp only [wp_bind', W.mark, W.pushRef, State.topJava?_setTop' _ XF.here.top, Option.some.injEq, exists_eq_left', State.setTop_setTop, State.heap_setTop]
  intro acts
  simp [jvm, XF.here.top]
  rw [← hh1] at a1
  exact a1
/-- a read out of a row of rows -/
theorem xg_aldg (hexec : p.tables.exec = Jvm.exec) (hb : c.code = cc) (hK : va_K D cl tys s) (hP : va_P D cl ws H) (q0 t0 : Nat) {cA : ClassId} {ty : FieldType} {n : Nat} {f : Nat → Option Nat} (ha : ws[q0]? = some (a, .inl (cA, n, .inr (.inr (.inr (.inr f)))))) (ht : tys[t0]? = some (cA, .array ty)) {i : Int32} (hin : vp_in i n) (hdg : decode cc pc = .ok (.aaload, 1))
    (kk : W p l e R s m args below meth c H locs cells slots Q (F0 m (pc + 1) ls (va_rf (f i.toNatClampNeg) :: rest))) : W p l e R s m args below meth c H locs cells slots Q (F0 m pc ls (.int i :: .ref a :: rest)) := by
  have hlt : i.toNatClampNeg < n := Nat.not_le.mp fun q => hin (Or.inr q)
  exact W.aald (v := va_rf (f i.toNatClampNeg)) (ty := .array ty) hexec hb (hP q0 _ ha) ((hK.2 t0 _ ht).1 n (fun j => va_rf (f j))) rfl (fun q => by cases q) (by show ¬ (i < 0 ∨ (arrV _ _ _).slots.size ≤ _); rw [arrV_size]; exact hin) (by show (arrV _ _ _).slots[_]? = _; rw [arrV_read _ _ hlt]) rfl rfl hdg kk
end XM2
