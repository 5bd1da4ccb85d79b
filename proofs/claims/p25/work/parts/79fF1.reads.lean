set_option maxHeartbeats 4000000 in
set_option maxRecDepth 100000 in
/-- seen, exactly -/
theorem g_X5_seen (l : Launch) (dC : Nat → ClassId) (dI : Nat → Nat → Nat) (cy : Nat → ClassId) (v : Nat → Nat) (L : List Nat) (K N : Nat → Nat) (T : Nat → Nat → Nat) (I : Nat → Nat → Int32) (Q : Nat → Nat → Option Nat) (J : Nat → Nat → Int32) (pa ra : Nat → Nat) (kx : Nat → Prop) (σ : SG) (E : Int) (wh : Int32) (hE : REP v pa ra L K N T I Q J kx σ) (hkx : kx = kxo σ) (hSK : SK σ) (hLA : LA E σ) (hE9 : E < 1900) (hB : B5 (σ.1 0 0)) : Met l yX5_seen wsX5_seen ({ frames := 0, cells := 0, slots := 0, locals := 0 }) (va_Pc [.ref (v 0), .int wh] (pB dC dI cy L (pF cy K N T I Q J))) (vp_Si (fun r => r = aSn σ wh)) 0 0 (fun _ => False) := by
  refine Met.ofW (cc := cX5_seen) (maxL := 2) (ret := (some .int)) (by decide) rfl ?_
  intro p e s m args below meth c s₁ B hml hv
  obtain ⟨rfl, hP, hK, hN⟩ := hv
  have hx := B.exec
  have hb := B.bytes
  have hr := B.returns
  have hts := atoms_spec (ws := wsX5_seen) B.pre
  have hown : s.vm.findClass RX5 = some m.cls := findClass_of_methodNamed B.named
  have hlocks := B.notSynchronized
  have hi5 : ∀ w ∈ wsX50, w ∈ wsX5_seen := by decide +kernel
  have hi0 : ∀ w ∈ wsX00, w ∈ wsX5_seen := by decide +kernel
  have hl := lv_entry ([.ref (v 0), .int wh]) (n := 2) (Nat.le_of_ble_eq_true rfl)
  rw [lg_entry_eq]
  generalize (lg_sl ([.ref (v 0), .int wh]) ++ List.replicate (2 - (lg_sl ([.ref (v 0), .int wh])).length) Slot.unset).toArray = ls at hl ⊢
  have hl : lv_has ls 2 [(0, .ref (v 0)), (1, .int wh)] := hl
  have hn28 := hN.1
  have hn30 := hN.2.1
  have hn37 := hN.2.2.1
  have hC := hE.ct
  refine lv_aload_n hx hb dX5_seen_0 rfl (lv_at hl 0 rfl) ?_
  obtain ⟨j740001, hj740001⟩ := pG_5 (cy := cy) (N := N) (T := T) (I := I) (Q := Q) (J := J) (hC.at 0 (by decide)) (hC.k 0 (by decide) rfl)
  refine va_get (D := (dC, dI)) (ci := 5) (v := va_rf (Q (v 0) 5)) (C := RX5) (T := TX5) (N := 6) hx hb hts hi5 hown hK hP j740001 hj740001 rfl 5 (by decide) (hts (.fieldLink RX5 34 "TallyLogs" "lastSeen" "LTallyLogs$Entry;") (by decide +kernel)) (fun _ h9 => h9) rfl dX5_seen_1 ?_
  cases hq740003 : Q (v 0) 5 with
  | none =>
    refine W.eq (g2 := F0 m 4 ls [.null]) rfl ?_
    refine lv_ifnonnullN hx hb dX5_seen_4 ?_
    refine lv_iconst (v := 0) hx hb dX5_seen_7 (by decide) ?_
    exact W.iret (v := 0) hx hb hr (fun t ht hW => ⟨0, rfl, (by have hsn : ∀ i, i < 6 → σ.1 16 i = 0 := (by have h9 := hE.sn; rw [hq740003] at h9; exact h9); show _ = _; unfold aSn; by_cases z : sp_in wh.toInt64 0 5 = 0; (rw [if_pos z]); rw [if_neg z]; exact (hsn _ (vp_lt (n := 6) (xin_sp z (by decide)))).symm), ht⟩) (fun _ h => by cases h) dX5_seen_8
  | some b740002 =>
    have hTb740002 := (hC.2.2.1 b740002 hq740003)
    refine W.eq (g2 := F0 m 4 ls [.ref b740002]) rfl ?_
    refine lv_ifnonnull (tgt := 9) hx hb dX5_seen_4 (by decide) ?_
    refine lv_iload_n hx hb dX5_seen_9 rfl (lv_at hl 1 rfl) ?_
    by_cases hw740004 : wh = 0
    · obtain rfl : wh = 0 := hw740004
      refine lv_tableIn (off := 38) (tgt := 48) hx hb dX5_seen_10 (by decide) (by decide) (by decide +kernel) (by decide) ?_
      refine lv_aload_n hx hb dX5_seen_48 rfl (lv_at hl 0 rfl) ?_
      obtain ⟨j740005, hj740005⟩ := pG_5 (cy := cy) (N := N) (T := T) (I := I) (Q := Q) (J := J) (hC.at 0 (by decide)) (hC.k 0 (by decide) rfl)
      refine va_get (D := (dC, dI)) (ci := 5) (v := va_rf (Q (v 0) 5)) (C := RX5) (T := TX5) (N := 6) hx hb hts hi5 hown hK hP j740005 hj740005 rfl 5 (by decide) (hts (.fieldLink RX5 34 "TallyLogs" "lastSeen" "LTallyLogs$Entry;") (by decide +kernel)) (fun _ h9 => h9) rfl dX5_seen_49 ?_
      refine W.eq (g2 := F0 m 52 ls [.ref b740002]) (by rw [hq740003]; rfl) ?_
      obtain ⟨j740006, hj740006⟩ := pG_0 (cy := cy) (N := N) (T := T) (I := I) (Q := Q) (J := J) hTb740002.1 hTb740002.2
      refine va_get (D := (dC, dI)) (ci := 0) (v := .int (I b740002 0)) (C := RX0) (T := TX0) (N := 8) hx hb hts hi0 hown hK hP j740006 hj740006 rfl 0 (by decide) (hts (.fieldLink RX5 178 "TallyLogs$Entry" "epoch" "I") (by decide +kernel)) (fun _ h9 => h9) rfl dX5_seen_52 ?_
      refine lv_topi (fun x740007 ex740007 => ?_)
      exact W.iret (v := x740007) hx hb hr (fun t ht hW => ⟨x740007, rfl, (by have hsn : I b740002 0 = σ.1 16 0 ∧ ∀ i, i < 5 → I b740002 (i + 2) = σ.1 16 (i + 1) := (by have h9 := hE.sn; rw [hq740003] at h9; exact h9); show _ = _; unfold aSn; rw [if_neg (sp_inl_yes (i := 0) (j := 5) (by decide) (by decide) (by decide)), show (0 : Int32).toNatClampNeg = 0 by decide, ex740007]; exact hsn.1), ht⟩) (fun _ h => by cases h) dX5_seen_55
    by_cases hw740008 : wh = 1
    · obtain rfl : wh = 1 := hw740008
      refine lv_tableIn (off := 46) (tgt := 56) hx hb dX5_seen_10 (by decide) (by decide) (by decide +kernel) (by decide) ?_
      refine lv_aload_n hx hb dX5_seen_56 rfl (lv_at hl 0 rfl) ?_
      obtain ⟨j740009, hj740009⟩ := pG_5 (cy := cy) (N := N) (T := T) (I := I) (Q := Q) (J := J) (hC.at 0 (by decide)) (hC.k 0 (by decide) rfl)
      refine va_get (D := (dC, dI)) (ci := 5) (v := va_rf (Q (v 0) 5)) (C := RX5) (T := TX5) (N := 6) hx hb hts hi5 hown hK hP j740009 hj740009 rfl 5 (by decide) (hts (.fieldLink RX5 34 "TallyLogs" "lastSeen" "LTallyLogs$Entry;") (by decide +kernel)) (fun _ h9 => h9) rfl dX5_seen_57 ?_
      refine W.eq (g2 := F0 m 60 ls [.ref b740002]) (by rw [hq740003]; rfl) ?_
      obtain ⟨j740010, hj740010⟩ := pG_0 (cy := cy) (N := N) (T := T) (I := I) (Q := Q) (J := J) hTb740002.1 hTb740002.2
      refine va_get (D := (dC, dI)) (ci := 0) (v := .int (I b740002 2)) (C := RX0) (T := TX0) (N := 8) hx hb hts hi0 hown hK hP j740010 hj740010 rfl 2 (by decide) (hts (.fieldLink RX5 181 "TallyLogs$Entry" "producer" "I") (by decide +kernel)) (fun _ h9 => h9) rfl dX5_seen_60 ?_
      refine lv_topi (fun x740011 ex740011 => ?_)
      exact W.iret (v := x740011) hx hb hr (fun t ht hW => ⟨x740011, rfl, (by have hsn : I b740002 0 = σ.1 16 0 ∧ ∀ i, i < 5 → I b740002 (i + 2) = σ.1 16 (i + 1) := (by have h9 := hE.sn; rw [hq740003] at h9; exact h9); show _ = _; unfold aSn; rw [if_neg (sp_inl_yes (i := 0) (j := 5) (by decide) (by decide) (by decide)), show (1 : Int32).toNatClampNeg = 1 by decide, ex740011]; exact hsn.2 0 (by decide)), ht⟩) (fun _ h => by cases h) dX5_seen_63
    by_cases hw740012 : wh = 2
    · obtain rfl : wh = 2 := hw740012
      refine lv_tableIn (off := 54) (tgt := 64) hx hb dX5_seen_10 (by decide) (by decide) (by decide +kernel) (by decide) ?_
      refine lv_aload_n hx hb dX5_seen_64 rfl (lv_at hl 0 rfl) ?_
      obtain ⟨j740013, hj740013⟩ := pG_5 (cy := cy) (N := N) (T := T) (I := I) (Q := Q) (J := J) (hC.at 0 (by decide)) (hC.k 0 (by decide) rfl)
      refine va_get (D := (dC, dI)) (ci := 5) (v := va_rf (Q (v 0) 5)) (C := RX5) (T := TX5) (N := 6) hx hb hts hi5 hown hK hP j740013 hj740013 rfl 5 (by decide) (hts (.fieldLink RX5 34 "TallyLogs" "lastSeen" "LTallyLogs$Entry;") (by decide +kernel)) (fun _ h9 => h9) rfl dX5_seen_65 ?_
      refine W.eq (g2 := F0 m 68 ls [.ref b740002]) (by rw [hq740003]; rfl) ?_
      obtain ⟨j740014, hj740014⟩ := pG_0 (cy := cy) (N := N) (T := T) (I := I) (Q := Q) (J := J) hTb740002.1 hTb740002.2
      refine va_get (D := (dC, dI)) (ci := 0) (v := .int (I b740002 3)) (C := RX0) (T := TX0) (N := 8) hx hb hts hi0 hown hK hP j740014 hj740014 rfl 3 (by decide) (hts (.fieldLink RX5 184 "TallyLogs$Entry" "generation" "I") (by decide +kernel)) (fun _ h9 => h9) rfl dX5_seen_68 ?_
      refine lv_topi (fun x740015 ex740015 => ?_)
      exact W.iret (v := x740015) hx hb hr (fun t ht hW => ⟨x740015, rfl, (by have hsn : I b740002 0 = σ.1 16 0 ∧ ∀ i, i < 5 → I b740002 (i + 2) = σ.1 16 (i + 1) := (by have h9 := hE.sn; rw [hq740003] at h9; exact h9); show _ = _; unfold aSn; rw [if_neg (sp_inl_yes (i := 0) (j := 5) (by decide) (by decide) (by decide)), show (2 : Int32).toNatClampNeg = 2 by decide, ex740015]; exact hsn.2 1 (by decide)), ht⟩) (fun _ h => by cases h) dX5_seen_71
    by_cases hw740016 : wh = 3
    · obtain rfl : wh = 3 := hw740016
      refine lv_tableIn (off := 62) (tgt := 72) hx hb dX5_seen_10 (by decide) (by decide) (by decide +kernel) (by decide) ?_
      refine lv_aload_n hx hb dX5_seen_72 rfl (lv_at hl 0 rfl) ?_
      obtain ⟨j740017, hj740017⟩ := pG_5 (cy := cy) (N := N) (T := T) (I := I) (Q := Q) (J := J) (hC.at 0 (by decide)) (hC.k 0 (by decide) rfl)
      refine va_get (D := (dC, dI)) (ci := 5) (v := va_rf (Q (v 0) 5)) (C := RX5) (T := TX5) (N := 6) hx hb hts hi5 hown hK hP j740017 hj740017 rfl 5 (by decide) (hts (.fieldLink RX5 34 "TallyLogs" "lastSeen" "LTallyLogs$Entry;") (by decide +kernel)) (fun _ h9 => h9) rfl dX5_seen_73 ?_
      refine W.eq (g2 := F0 m 76 ls [.ref b740002]) (by rw [hq740003]; rfl) ?_
      obtain ⟨j740018, hj740018⟩ := pG_0 (cy := cy) (N := N) (T := T) (I := I) (Q := Q) (J := J) hTb740002.1 hTb740002.2
      refine va_get (D := (dC, dI)) (ci := 0) (v := .int (I b740002 4)) (C := RX0) (T := TX0) (N := 8) hx hb hts hi0 hown hK hP j740018 hj740018 rfl 4 (by decide) (hts (.fieldLink RX5 185 "TallyLogs$Entry" "seq" "I") (by decide +kernel)) (fun _ h9 => h9) rfl dX5_seen_76 ?_
      refine lv_topi (fun x740019 ex740019 => ?_)
      exact W.iret (v := x740019) hx hb hr (fun t ht hW => ⟨x740019, rfl, (by have hsn : I b740002 0 = σ.1 16 0 ∧ ∀ i, i < 5 → I b740002 (i + 2) = σ.1 16 (i + 1) := (by have h9 := hE.sn; rw [hq740003] at h9; exact h9); show _ = _; unfold aSn; rw [if_neg (sp_inl_yes (i := 0) (j := 5) (by decide) (by decide) (by decide)), show (3 : Int32).toNatClampNeg = 3 by decide, ex740019]; exact hsn.2 2 (by decide)), ht⟩) (fun _ h => by cases h) dX5_seen_79
    by_cases hw740020 : wh = 4
    · obtain rfl : wh = 4 := hw740020
      refine lv_tableIn (off := 70) (tgt := 80) hx hb dX5_seen_10 (by decide) (by decide) (by decide +kernel) (by decide) ?_
      refine lv_aload_n hx hb dX5_seen_80 rfl (lv_at hl 0 rfl) ?_
      obtain ⟨j740021, hj740021⟩ := pG_5 (cy := cy) (N := N) (T := T) (I := I) (Q := Q) (J := J) (hC.at 0 (by decide)) (hC.k 0 (by decide) rfl)
      refine va_get (D := (dC, dI)) (ci := 5) (v := va_rf (Q (v 0) 5)) (C := RX5) (T := TX5) (N := 6) hx hb hts hi5 hown hK hP j740021 hj740021 rfl 5 (by decide) (hts (.fieldLink RX5 34 "TallyLogs" "lastSeen" "LTallyLogs$Entry;") (by decide +kernel)) (fun _ h9 => h9) rfl dX5_seen_81 ?_
      refine W.eq (g2 := F0 m 84 ls [.ref b740002]) (by rw [hq740003]; rfl) ?_
      obtain ⟨j740022, hj740022⟩ := pG_0 (cy := cy) (N := N) (T := T) (I := I) (Q := Q) (J := J) hTb740002.1 hTb740002.2
      refine va_get (D := (dC, dI)) (ci := 0) (v := .int (I b740002 5)) (C := RX0) (T := TX0) (N := 8) hx hb hts hi0 hown hK hP j740022 hj740022 rfl 5 (by decide) (hts (.fieldLink RX5 188 "TallyLogs$Entry" "key" "I") (by decide +kernel)) (fun _ h9 => h9) rfl dX5_seen_84 ?_
      refine lv_topi (fun x740023 ex740023 => ?_)
      exact W.iret (v := x740023) hx hb hr (fun t ht hW => ⟨x740023, rfl, (by have hsn : I b740002 0 = σ.1 16 0 ∧ ∀ i, i < 5 → I b740002 (i + 2) = σ.1 16 (i + 1) := (by have h9 := hE.sn; rw [hq740003] at h9; exact h9); show _ = _; unfold aSn; rw [if_neg (sp_inl_yes (i := 0) (j := 5) (by decide) (by decide) (by decide)), show (4 : Int32).toNatClampNeg = 4 by decide, ex740023]; exact hsn.2 3 (by decide)), ht⟩) (fun _ h => by cases h) dX5_seen_87
    by_cases hw740024 : wh = 5
    · obtain rfl : wh = 5 := hw740024
      refine lv_tableIn (off := 78) (tgt := 88) hx hb dX5_seen_10 (by decide) (by decide) (by decide +kernel) (by decide) ?_
      refine lv_aload_n hx hb dX5_seen_88 rfl (lv_at hl 0 rfl) ?_
      obtain ⟨j740025, hj740025⟩ := pG_5 (cy := cy) (N := N) (T := T) (I := I) (Q := Q) (J := J) (hC.at 0 (by decide)) (hC.k 0 (by decide) rfl)
      refine va_get (D := (dC, dI)) (ci := 5) (v := va_rf (Q (v 0) 5)) (C := RX5) (T := TX5) (N := 6) hx hb hts hi5 hown hK hP j740025 hj740025 rfl 5 (by decide) (hts (.fieldLink RX5 34 "TallyLogs" "lastSeen" "LTallyLogs$Entry;") (by decide +kernel)) (fun _ h9 => h9) rfl dX5_seen_89 ?_
      refine W.eq (g2 := F0 m 92 ls [.ref b740002]) (by rw [hq740003]; rfl) ?_
      obtain ⟨j740026, hj740026⟩ := pG_0 (cy := cy) (N := N) (T := T) (I := I) (Q := Q) (J := J) hTb740002.1 hTb740002.2
      refine va_get (D := (dC, dI)) (ci := 0) (v := .int (I b740002 6)) (C := RX0) (T := TX0) (N := 8) hx hb hts hi0 hown hK hP j740026 hj740026 rfl 6 (by decide) (hts (.fieldLink RX5 191 "TallyLogs$Entry" "value" "I") (by decide +kernel)) (fun _ h9 => h9) rfl dX5_seen_92 ?_
      refine lv_topi (fun x740027 ex740027 => ?_)
      exact W.iret (v := x740027) hx hb hr (fun t ht hW => ⟨x740027, rfl, (by have hsn : I b740002 0 = σ.1 16 0 ∧ ∀ i, i < 5 → I b740002 (i + 2) = σ.1 16 (i + 1) := (by have h9 := hE.sn; rw [hq740003] at h9; exact h9); show _ = _; unfold aSn; rw [if_neg (sp_inl_yes (i := 0) (j := 5) (by decide) (by decide) (by decide)), show (5 : Int32).toNatClampNeg = 5 by decide, ex740027]; exact hsn.2 4 (by decide)), ht⟩) (fun _ h => by cases h) dX5_seen_95
    refine lv_tableOut (tgt := 96) hx hb dX5_seen_10 (by simp only [xk_eq, xk_lt, xk_le, xk_0, xk_1, xk_2, xk_3, xk_4, xk_5, xk_6, xk_7, xk_8, xk_50] at hw740004 hw740008 hw740012 hw740016 hw740020 hw740024; omega) (by decide) ?_
    refine lv_iconst (v := 0) hx hb dX5_seen_96 (by decide) ?_
    exact W.iret (v := 0) hx hb hr (fun t ht hW => ⟨0, rfl, by show _ = _; unfold aSn; rw [if_pos (sp_inl_no (i := 0) (j := 5) (by decide) (by decide) (by simp only [xk_eq, xk_lt, xk_le, xk_0, xk_1, xk_2, xk_3, xk_4, xk_5, xk_6, xk_7, xk_8, xk_50] at hw740004 hw740008 hw740012 hw740016 hw740020 hw740024; omega))], ht⟩) (fun _ h => by cases h) dX5_seen_97
set_option maxHeartbeats 4000000 in
set_option maxRecDepth 100000 in
/-- count, exactly -/
theorem g_X5_count (l : Launch) (dC : Nat → ClassId) (dI : Nat → Nat → Nat) (cy : Nat → ClassId) (v : Nat → Nat) (L : List Nat) (K N : Nat → Nat) (T : Nat → Nat → Nat) (I : Nat → Nat → Int32) (Q : Nat → Nat → Option Nat) (J : Nat → Nat → Int32) (pa ra : Nat → Nat) (kx : Nat → Prop) (σ : SG) (E : Int) (wh : Int32) (hE : REP v pa ra L K N T I Q J kx σ) (hkx : kx = kxo σ) (hSK : SK σ) (hLA : LA E σ) (hE9 : E < 1900) (hB : B5 (σ.1 0 0)) : Met l yX5_count wsX5_count ({ frames := 1, cells := 0, slots := 0, locals := 21 }) (va_Pc [.ref (v 0), .int wh] (pB dC dI cy L (pF cy K N T I Q J))) (vp_Si (fun r => r = aCn σ wh)) 0 0 (fun _ => False) := by
  refine Met.ofW (cc := cX5_count) (maxL := 3) (ret := (some .int)) (by decide) rfl ?_
  intro p e s m args below meth c s₁ B hml hv
  obtain ⟨rfl, hP, hK, hN⟩ := hv
  have hx := B.exec
  have hb := B.bytes
  have hr := B.returns
  have hts := atoms_spec (ws := wsX5_count) B.pre
  have hown : s.vm.findClass RX5 = some m.cls := findClass_of_methodNamed B.named
  have hlocks := B.notSynchronized
  have hi5 : ∀ w ∈ wsX50, w ∈ wsX5_count := by decide +kernel
  have hi3 : ∀ w ∈ wsX30, w ∈ wsX5_count := by decide +kernel
  have hl := lv_entry ([.ref (v 0), .int wh]) (n := 3) (Nat.le_of_ble_eq_true rfl)
  rw [lg_entry_eq]
  generalize (lg_sl ([.ref (v 0), .int wh]) ++ List.replicate (3 - (lg_sl ([.ref (v 0), .int wh])).length) Slot.unset).toArray = ls at hl ⊢
  have hl : lv_has ls 3 [(0, .ref (v 0)), (1, .int wh)] := hl
  have hn28 := hN.1
  have hn30 := hN.2.1
  have hn37 := hN.2.2.1
  have hC := hE.ct
  refine lv_iload_n hx hb dX5_count_0 rfl (lv_at hl 1 rfl) ?_
  refine lv_if_ne (tgt := 9) hx hb dX5_count_1 (by decide) (fun c740028 => ?_) (fun c740028 => ?_)
  · have kc740028 : ¬ (wh.toInt = 0) := by have h9 := c740028; rw [xk_eq, xk_0] at h9; exact h9
    refine lv_iload_n hx hb dX5_count_9 rfl (lv_at hl 1 rfl) ?_
    refine lv_iconst (v := 1) hx hb dX5_count_10 (by decide) ?_
    refine lv_icmp_ne (tgt := 19) hx hb dX5_count_11 (by decide) (fun c740029 => ?_) (fun c740029 => ?_)
    · have kc740029 : ¬ (wh.toInt = 1) := by have h9 := c740029; rw [xk_eq, xk_1] at h9; exact h9
      refine lv_iload_n hx hb dX5_count_19 rfl (lv_at hl 1 rfl) ?_
      refine lv_iconst (v := 2) hx hb dX5_count_20 (by decide) ?_
      refine lv_icmp_lt (tgt := 30) hx hb dX5_count_21 (by decide) (fun c740030 => ?_) (fun c740030 => ?_)
      · have kc740030 : wh.toInt < 2 := by have h9 := c740030; rw [xk_lt, xk_2] at h9; exact h9
        refine lv_iconst (v := (-1)) hx hb dX5_count_30 (by decide) ?_
        exact W.iret (v := (-1)) hx hb hr (fun t ht hW => ⟨(-1), rfl, by show _ = _; unfold aCn; rw [if_pos (sp_inl_no (i := 0) (j := 7) (by decide) (by decide) (by have a1 := c740028; have a2 := c740029; rw [xk_eq, xk_0] at a1; rw [xk_eq, xk_1] at a2; omega))], ht⟩) (fun _ h => by cases h) dX5_count_31
      · have kc740030 : ¬ (wh.toInt < 2) := by have h9 := c740030; rw [xk_lt, xk_2] at h9; exact h9
        refine lv_iload_n hx hb dX5_count_24 rfl (lv_at hl 1 rfl) ?_
        refine lv_bipush (v := 8) hx hb dX5_count_25 (by decide) ?_
        refine lv_icmp_lt (tgt := 32) hx hb dX5_count_27 (by decide) (fun c740031 => ?_) (fun c740031 => ?_)
        · have kc740031 : wh.toInt < 8 := by have h9 := c740031; rw [xk_lt, xk_8] at h9; exact h9
          refine lv_aload_n hx hb dX5_count_32 rfl (lv_at hl 0 rfl) ?_
          refine lv_iload_n hx hb dX5_count_33 rfl (lv_at hl 1 rfl) ?_
          refine lv_iconst (v := 2) hx hb dX5_count_34 (by decide) ?_
          refine lv_isub hx hb dX5_count_35 ?_
          refine lv_topi (fun v740032 ev740032 => ?_)
          have tv740032 : v740032.toInt = wh.toInt - 2 := by rw [ev740032]; exact (xsub (by rw [xk_2]; omega) (by rw [xk_2]; omega)).trans (by rw [xk_2])
          obtain ⟨j740034, hj740034⟩ := pG_5 (cy := cy) (N := N) (T := T) (I := I) (Q := Q) (J := J) (hC.at 0 (by decide)) (hC.k 0 (by decide) rfl)
          refine va_csq (W.runV (As := [.int v740032]) (rest := []) ⟨hx, hb, hml, hown, hts⟩ (c_X5_producerAt l dC dI cy v L K N T I Q J  v740032 hC) (cwV 1 hts gX5_count_X5_producerAt rfl rfl rfl (by decide +kernel) ⟨Nat.le_of_ble_eq_true rfl, Nat.le_of_ble_eq_true rfl⟩) ⟨pb_blind, va_recv hK hP (ci := 5) (q0 := j740034) rfl hj740034, fun U hU hW => ⟨rfl, pb_pre hP hK hN hU hW⟩⟩ rfl rfl hl.1 rfl (lv_room (Nat.le_of_ble_eq_true rfl)) dX5_count_36 ⟨Nat.le_of_ble_eq_true rfl, Nat.le_of_ble_eq_true rfl⟩) (fun r740033 hr740033 => ?_)
          rcases hr740033 with ⟨hn740035, rfl⟩ | ⟨j740035, hj740035, ej740035, rfl⟩
          · refine W.eq (g2 := F0 m 39 ls [.null]) rfl ?_
            refine lv_astore_nN (lv' := [(2, .null), (0, .ref (v 0)), (1, .int wh)]) hx hb dX5_count_39 rfl hl (by decide) rfl (fun ls hl => ?_)
            refine lv_aload_nN hx hb dX5_count_40 rfl (lv_at hl 0 rfl) ?_
            refine lv_ifnonnullN hx hb dX5_count_41 ?_
            refine lv_iconst (v := (-1)) hx hb dX5_count_44 (by decide) ?_
            refine lv_goto (tgt := 52) hx hb dX5_count_45 (by decide) ?_
            exact W.iret (v := (-1)) hx hb hr (fun t ht hW => ⟨(-1), rfl, (by exfalso; exact hn740035 ⟨by omega, by omega⟩), ht⟩) (fun _ h => by cases h) dX5_count_52
          · refine W.eq (g2 := F0 m 39 ls [.ref (v (4 + j740035))]) rfl ?_
            have cj740035 := nI_cl (by omega) ej740035
            refine lv_astore_n (lv' := [(2, .ref (v (4 + j740035))), (0, .ref (v 0)), (1, .int wh)]) hx hb dX5_count_39 rfl hl (by decide) rfl (fun ls hl => ?_)
            refine lv_aload_n hx hb dX5_count_40 rfl (lv_at hl 0 rfl) ?_
            refine lv_ifnonnull (tgt := 48) hx hb dX5_count_41 (by decide) ?_
            refine lv_aload_n hx hb dX5_count_48 rfl (lv_at hl 0 rfl) ?_
            obtain ⟨j740036, hj740036⟩ := pG_3 (cy := cy) (N := N) (T := T) (I := I) (Q := Q) (J := J) (hC.kp hj740035).1 (hC.kp hj740035).2
            refine va_get (D := (dC, dI)) (ci := 3) (v := .int (I (v (4 + j740035)) 2)) (C := RX3) (T := TX3) (N := 6) hx hb hts hi3 hown hK hP j740036 hj740036 rfl 2 (by decide) (hts (.fieldLink RX5 78 "TallyLogs$Producer" "mode" "I") (by decide +kernel)) (fun _ h9 => h9) rfl dX5_count_49 ?_
            refine lv_topi (fun x740037 ex740037 => ?_)
            have sx740037 : x740037 = σ.1 9 j740035 := ex740037.trans (hE.pr j740035 hj740035).2.2.1
            exact W.iret (v := x740037) hx hb hr (fun t ht hW => ⟨x740037, rfl, by show _ = _; unfold aCn; rw [if_neg (sp_inl_yes (i := 0) (j := 7) (by decide) (by decide) ⟨by omega, by omega⟩), if_neg c740028, if_neg c740029, ← ev740032, cj740035]; exact sx740037, ht⟩) (fun _ h => by cases h) dX5_count_52
        · have kc740031 : ¬ (wh.toInt < 8) := by have h9 := c740031; rw [xk_lt, xk_8] at h9; exact h9
          refine lv_iconst (v := (-1)) hx hb dX5_count_30 (by decide) ?_
          exact W.iret (v := (-1)) hx hb hr (fun t ht hW => ⟨(-1), rfl, by show _ = _; unfold aCn; rw [if_pos (sp_inl_no (i := 0) (j := 7) (by decide) (by decide) (by have a1 := c740028; have a2 := c740029; rw [xk_eq, xk_0] at a1; rw [xk_eq, xk_1] at a2; omega))], ht⟩) (fun _ h => by cases h) dX5_count_31
    · have kc740029 : wh.toInt = 1 := by have h9 := c740029; rw [xk_eq, xk_1] at h9; exact h9
      refine lv_aload_n hx hb dX5_count_14 rfl (lv_at hl 0 rfl) ?_
      obtain ⟨j740038, hj740038⟩ := pG_5 (cy := cy) (N := N) (T := T) (I := I) (Q := Q) (J := J) (hC.at 0 (by decide)) (hC.k 0 (by decide) rfl)
      refine va_get (D := (dC, dI)) (ci := 5) (v := .int (I (v 0) 3)) (C := RX5) (T := TX5) (N := 6) hx hb hts hi5 hown hK hP j740038 hj740038 rfl 3 (by decide) (hts (.fieldLink RX5 27 "TallyLogs" "up" "I") (by decide +kernel)) (fun _ h9 => h9) rfl dX5_count_15 ?_
      refine lv_topi (fun x740039 ex740039 => ?_)
      have sx740039 : x740039 = σ.1 0 0 := ex740039.trans hE.up
      exact W.iret (v := x740039) hx hb hr (fun t ht hW => ⟨x740039, rfl, (by obtain rfl := c740029; show _ = _; unfold aCn; rw [if_neg (sp_inl_yes (i := 0) (j := 7) (by decide) (by decide) (by decide)), if_neg (by decide), if_pos rfl]; exact sx740039), ht⟩) (fun _ h => by cases h) dX5_count_18
  · have kc740028 : wh.toInt = 0 := by have h9 := c740028; rw [xk_eq, xk_0] at h9; exact h9
    refine lv_aload_n hx hb dX5_count_4 rfl (lv_at hl 0 rfl) ?_
    obtain ⟨j740040, hj740040⟩ := pG_5 (cy := cy) (N := N) (T := T) (I := I) (Q := Q) (J := J) (hC.at 0 (by decide)) (hC.k 0 (by decide) rfl)
    refine va_get (D := (dC, dI)) (ci := 5) (v := .int (I (v 0) 4)) (C := RX5) (T := TX5) (N := 6) hx hb hts hi5 hown hK hP j740040 hj740040 rfl 4 (by decide) (hts (.fieldLink RX5 31 "TallyLogs" "now" "I") (by decide +kernel)) (fun _ h9 => h9) rfl dX5_count_5 ?_
    refine lv_topi (fun x740041 ex740041 => ?_)
    have sx740041 : x740041 = σ.1 0 1 := ex740041.trans hE.nw
    exact W.iret (v := x740041) hx hb hr (fun t ht hW => ⟨x740041, rfl, (by obtain rfl := c740028; show _ = _; unfold aCn; rw [if_neg (sp_inl_yes (i := 0) (j := 7) (by decide) (by decide) (by decide)), if_pos rfl]; exact sx740041), ht⟩) (fun _ h => by cases h) dX5_count_8
set_option maxHeartbeats 4000000 in
set_option maxRecDepth 100000 in
/-- firstOpenOf of a Replica, exactly -/
theorem g_X5_firstOpenOf (l : Launch) (dC : Nat → ClassId) (dI : Nat → Nat → Nat) (cy : Nat → ClassId) (v : Nat → Nat) (L : List Nat) (K N : Nat → Nat) (T : Nat → Nat → Nat) (I : Nat → Nat → Int32) (Q : Nat → Nat → Option Nat) (J : Nat → Nat → Int32) (pa ra : Nat → Nat) (kx : Nat → Prop) (σ : SG) (Gp Gn : Nat) (hE : REP v pa ra L K N T I Q J kx σ) (hp : Gp < 4) (hn : Gn < 5) (hl9 : lvj σ Gp Gn) (hN9 : LN (σ.2.1 (5 * Gp + Gn))) (hRK : RK σ (5 * Gp + Gn)) : Met l yX5_firstOpenOf wsX5_firstOpenOf ({ frames := 4, cells := 0, slots := 0, locals := 89 }) (va_Pc [.ref (ra (5 * Gp + Gn))] (pB dC dI cy L (pF cy K N T I Q J))) (vp_Si (fun r => r = oFo σ (5 * Gp + Gn))) 0 0 (fun _ => False) := by
  refine Met.ofW (cc := cX5_firstOpenOf) (maxL := 1) (ret := (some .int)) (by decide) rfl ?_
  intro p e s m args below meth c s₁ B hml hv
  obtain ⟨rfl, hP, hK, hN⟩ := hv
  have hx := B.exec
  have hb := B.bytes
  have hr := B.returns
  have hts := atoms_spec (ws := wsX5_firstOpenOf) B.pre
  have hown : s.vm.findClass RX5 = some m.cls := findClass_of_methodNamed B.named
  have hlocks := B.notSynchronized
  have hi4 : ∀ w ∈ wsX40, w ∈ wsX5_firstOpenOf := by decide +kernel
  have hl := lv_entry ([.ref (ra (5 * Gp + Gn))]) (n := 1) (Nat.le_of_ble_eq_true rfl)
  rw [lg_entry_eq]
  generalize (lg_sl ([.ref (ra (5 * Gp + Gn))]) ++ List.replicate (1 - (lg_sl ([.ref (ra (5 * Gp + Gn))])).length) Slot.unset).toArray = ls at hl ⊢
  have hl : lv_has ls 1 [(0, .ref (ra (5 * Gp + Gn)))] := hl
  have hn28 := hN.1
  have hn30 := hN.2.1
  have hn37 := hN.2.2.1
  have hC := hE.ct
  obtain ⟨n1g, n2g, n3g, n4g⟩ := id hN9
  refine lv_aload_n hx hb dX5_firstOpenOf_0 rfl (lv_at hl 0 rfl) ?_
  refine lv_ifnonnull (tgt := 8) hx hb dX5_firstOpenOf_1 (by decide) ?_
  refine lv_aload_n hx hb dX5_firstOpenOf_8 rfl (lv_at hl 0 rfl) ?_
  obtain ⟨j740043, hj740043⟩ := pG_4 (cy := cy) (N := N) (T := T) (I := I) (Q := Q) (J := J) (hE.rL hp hn hl9).1 (hE.rL hp hn hl9).2
  refine vp_callSi (W.runV (As := []) (rest := []) ⟨hx, hb, hml, hown, hts⟩ (g_X4_firstOpen l dC dI cy v L K N T I Q J pa ra kx σ Gp Gn hE hp hn hl9 hN9 hRK) (cwV 0 hts gX5_firstOpenOf_X4_firstOpen rfl rfl rfl (by decide +kernel) ⟨Nat.le_of_ble_eq_true rfl, Nat.le_of_ble_eq_true rfl⟩) ⟨pb_blind, va_recv hK hP (ci := 4) (q0 := j740043) rfl hj740043, fun U hU hW => ⟨rfl, pb_pre hP hK hN hU hW⟩⟩ rfl rfl hl.1 rfl (lv_room (Nat.le_of_ble_eq_true rfl)) dX5_firstOpenOf_9 ⟨Nat.le_of_ble_eq_true rfl, Nat.le_of_ble_eq_true rfl⟩) (fun r740042 hr740042 => ?_)
  exact W.iret (v := r740042) hx hb hr (fun t ht hW => ⟨r740042, rfl, hr740042, ht⟩) (fun _ h => by cases h) dX5_firstOpenOf_12
set_option maxHeartbeats 4000000 in
set_option maxRecDepth 100000 in
/-- firstOpenOf(null), exactly -/
theorem g_X5_firstOpenOf0 (l : Launch)  : Met l yX5_firstOpenOf wsX5_firstOpenOf ({ frames := 4, cells := 0, slots := 0, locals := 89 }) (fun v _ => v = ([.null] : List Value).toArray) (vp_Si (fun r => r = -1)) 0 0 (fun _ => False) := by
  refine Met.ofW (cc := cX5_firstOpenOf) (maxL := 1) (ret := (some .int)) (by decide) rfl ?_
  intro p e s m args below meth c s₁ B hml hv
  subst hv
  have hx := B.exec
  have hb := B.bytes
  have hr := B.returns
  have hts := atoms_spec (ws := wsX5_firstOpenOf) B.pre
  have hown : s.vm.findClass RX5 = some m.cls := findClass_of_methodNamed B.named
  have hlocks := B.notSynchronized
  have hl := lv_entry ([.null]) (n := 1) (Nat.le_of_ble_eq_true rfl)
  rw [lg_entry_eq]
  generalize (lg_sl ([.null]) ++ List.replicate (1 - (lg_sl ([.null])).length) Slot.unset).toArray = ls at hl ⊢
  have hl : lv_has ls 1 [(0, .null)] := hl
  refine lv_aload_nN hx hb dX5_firstOpenOf_0 rfl (lv_at hl 0 rfl) ?_
  refine lv_ifnonnullN hx hb dX5_firstOpenOf_1 ?_
  refine lv_iconst (v := (-1)) hx hb dX5_firstOpenOf_4 (by decide) ?_
  refine lv_goto (tgt := 12) hx hb dX5_firstOpenOf_5 (by decide) ?_
  exact W.iret (v := (-1)) hx hb hr (fun t ht hW => ⟨(-1), rfl, rfl, ht⟩) (fun _ h => by cases h) dX5_firstOpenOf_12
set_option maxHeartbeats 4000000 in
set_option maxRecDepth 100000 in
/-- state, exactly -/
theorem g_X5_state (l : Launch) (dC : Nat → ClassId) (dI : Nat → Nat → Nat) (cy : Nat → ClassId) (v : Nat → Nat) (L : List Nat) (K N : Nat → Nat) (T : Nat → Nat → Nat) (I : Nat → Nat → Int32) (Q : Nat → Nat → Option Nat) (J : Nat → Nat → Int32) (pa ra : Nat → Nat) (kx : Nat → Prop) (σ : SG) (E : Int) (xp wh : Int32) (hE : REP v pa ra L K N T I Q J kx σ) (hkx : kx = kxo σ) (hSK : SK σ) (hLA : LA E σ) (hE9 : E < 1900) (hB : B5 (σ.1 0 0)) : Met l yX5_state wsX5_state ({ frames := 5, cells := 0, slots := 0, locals := 109 }) (va_Pc [.ref (v 0), .int xp, .int wh] (pB dC dI cy L (pF cy K N T I Q J))) (vp_Si (fun r => r = aSt σ xp wh)) 0 0 (fun _ => False) := by
  refine Met.ofW (cc := cX5_state) (maxL := 4) (ret := (some .int)) (by decide) rfl ?_
  intro p e s m args below meth c s₁ B hml hv
  obtain ⟨rfl, hP, hK, hN⟩ := hv
  have hx := B.exec
  have hb := B.bytes
  have hr := B.returns
  have hts := atoms_spec (ws := wsX5_state) B.pre
  have hown : s.vm.findClass RX5 = some m.cls := findClass_of_methodNamed B.named
  have hlocks := B.notSynchronized
  have hi5 : ∀ w ∈ wsX50, w ∈ wsX5_state := by decide +kernel
  have hi2 : ∀ w ∈ wsX20, w ∈ wsX5_state := by decide +kernel
  have hl := lv_entry ([.ref (v 0), .int xp, .int wh]) (n := 4) (Nat.le_of_ble_eq_true rfl)
  rw [lg_entry_eq]
  generalize (lg_sl ([.ref (v 0), .int xp, .int wh]) ++ List.replicate (4 - (lg_sl ([.ref (v 0), .int xp, .int wh])).length) Slot.unset).toArray = ls at hl ⊢
  have hl : lv_has ls 4 [(0, .ref (v 0)), (1, .int xp), (2, .int wh)] := hl
  have hn28 := hN.1
  have hn30 := hN.2.1
  have hn37 := hN.2.2.1
  have hC := hE.ct
  refine lv_aload_n hx hb dX5_state_0 rfl (lv_at hl 0 rfl) ?_
  refine lv_iload_n hx hb dX5_state_1 rfl (lv_at hl 1 rfl) ?_
  obtain ⟨j740045, hj740045⟩ := pG_5 (cy := cy) (N := N) (T := T) (I := I) (Q := Q) (J := J) (hC.at 0 (by decide)) (hC.k 0 (by decide) rfl)
  refine va_csq (W.runV (As := [.int xp]) (rest := []) ⟨hx, hb, hml, hown, hts⟩ (g_X5_partitionAt l dC dI cy v L K N T I Q J pa ra kx σ xp hE) (cwV 1 hts gX5_state_X5_partitionAt rfl rfl rfl (by decide +kernel) ⟨Nat.le_of_ble_eq_true rfl, Nat.le_of_ble_eq_true rfl⟩) ⟨pb_blind, va_recv hK hP (ci := 5) (q0 := j740045) rfl hj740045, fun U hU hW => ⟨rfl, pb_pre hP hK hN hU hW⟩⟩ rfl rfl hl.1 rfl (lv_room (Nat.le_of_ble_eq_true rfl)) dX5_state_2 ⟨Nat.le_of_ble_eq_true rfl, Nat.le_of_ble_eq_true rfl⟩) (fun r740044 hr740044 => ?_)
  rcases hr740044 with ⟨rfl, hpn740046⟩ | ⟨P740046, hP740046, eP740046, htP740046, rfl⟩
  · refine W.eq (g2 := F0 m 5 ls [.null]) rfl ?_
    refine lv_astore_nN (lv' := [(3, .null), (0, .ref (v 0)), (1, .int xp), (2, .int wh)]) hx hb dX5_state_5 rfl hl (by decide) rfl (fun ls hl => ?_)
    refine lv_aload_nN hx hb dX5_state_6 rfl (lv_at hl 0 rfl) ?_
    refine lv_ifnonnullN hx hb dX5_state_7 ?_
    refine lv_iconst (v := (-1)) hx hb dX5_state_10 (by decide) ?_
    exact W.iret (v := (-1)) hx hb hr (fun t ht hW => ⟨(-1), rfl, by show _ = _; unfold aSt; rw [if_pos hpn740046], ht⟩) (fun _ h => by cases h) dX5_state_11
  · refine W.eq (g2 := F0 m 5 ls [.ref (pa P740046)]) rfl ?_
    have hit740046 := sp_it_y (f := σ.1 2) hP740046 eP740046 htP740046
    have cP740046 := nI_cl (by omega) eP740046
    have hPI740046 := hSK.1 P740046 hP740046
    have hPL740046 := hPI740046.pl htP740046
    have htO740046 := htP740046
    refine lv_astore_n (lv' := [(3, .ref (pa P740046)), (0, .ref (v 0)), (1, .int xp), (2, .int wh)]) hx hb dX5_state_5 rfl hl (by decide) rfl (fun ls hl => ?_)
    refine lv_aload_n hx hb dX5_state_6 rfl (lv_at hl 0 rfl) ?_
    refine lv_ifnonnull (tgt := 12) hx hb dX5_state_7 (by decide) ?_
    refine lv_iload_n hx hb dX5_state_12 rfl (lv_at hl 3 rfl) ?_
    by_cases hw740047 : wh = 0
    · obtain rfl : wh = 0 := hw740047
      refine lv_tableIn (off := 31) (tgt := 44) hx hb dX5_state_13 (by decide) (by decide) (by decide +kernel) (by decide) ?_
      refine lv_aload_n hx hb dX5_state_44 rfl (lv_at hl 0 rfl) ?_
      obtain ⟨j740048, hj740048⟩ := pG_2 (cy := cy) (N := N) (T := T) (I := I) (Q := Q) (J := J) (hE.pL hP740046 htP740046).1 (hE.pL hP740046 htP740046).2
      refine va_get (D := (dC, dI)) (ci := 2) (v := .int (I (pa P740046) 3)) (C := RX2) (T := TX2) (N := 6) hx hb hts hi2 hown hK hP j740048 hj740048 rfl 3 (by decide) (hts (.fieldLink RX5 51 "TallyLogs$Partition" "leader" "I") (by decide +kernel)) (fun _ h9 => h9) rfl dX5_state_45 ?_
      refine lv_topi (fun x740049 ex740049 => ?_)
      have sx740049 : x740049 = σ.1 4 P740046 := ex740049.trans ((hE.pt P740046 hP740046).2 htP740046).2.1.2.2.1
      exact W.iret (v := x740049) hx hb hr (fun t ht hW => ⟨x740049, rfl, by show _ = _; unfold aSt; rw [if_neg hit740046, if_neg (sp_inl_yes (i := 0) (j := 3) (by decide) (by decide) (by decide)), cP740046, if_pos rfl]; exact sx740049, ht⟩) (fun _ h => by cases h) dX5_state_48
    by_cases hw740050 : wh = 1
    · obtain rfl : wh = 1 := hw740050
      refine lv_tableIn (off := 36) (tgt := 49) hx hb dX5_state_13 (by decide) (by decide) (by decide +kernel) (by decide) ?_
      refine lv_aload_n hx hb dX5_state_49 rfl (lv_at hl 0 rfl) ?_
      obtain ⟨j740051, hj740051⟩ := pG_2 (cy := cy) (N := N) (T := T) (I := I) (Q := Q) (J := J) (hE.pL hP740046 htP740046).1 (hE.pL hP740046 htP740046).2
      refine va_get (D := (dC, dI)) (ci := 2) (v := .int (I (pa P740046) 4)) (C := RX2) (T := TX2) (N := 6) hx hb hts hi2 hown hK hP j740051 hj740051 rfl 4 (by decide) (hts (.fieldLink RX5 115 "TallyLogs$Partition" "epoch" "I") (by decide +kernel)) (fun _ h9 => h9) rfl dX5_state_50 ?_
      refine lv_topi (fun x740052 ex740052 => ?_)
      have sx740052 : x740052 = σ.1 5 P740046 := ex740052.trans ((hE.pt P740046 hP740046).2 htP740046).2.1.2.2.2.1
      exact W.iret (v := x740052) hx hb hr (fun t ht hW => ⟨x740052, rfl, by show _ = _; unfold aSt; rw [if_neg hit740046, if_neg (sp_inl_yes (i := 0) (j := 3) (by decide) (by decide) (by decide)), cP740046, if_neg (by decide), if_pos rfl]; exact sx740052, ht⟩) (fun _ h => by cases h) dX5_state_53
    by_cases hw740053 : wh = 2
    · obtain rfl : wh = 2 := hw740053
      refine lv_tableIn (off := 41) (tgt := 54) hx hb dX5_state_13 (by decide) (by decide) (by decide +kernel) (by decide) ?_
      refine lv_aload_n hx hb dX5_state_54 rfl (lv_at hl 0 rfl) ?_
      obtain ⟨j740054, hj740054⟩ := pG_2 (cy := cy) (N := N) (T := T) (I := I) (Q := Q) (J := J) (hE.pL hP740046 htP740046).1 (hE.pL hP740046 htP740046).2
      refine va_get (D := (dC, dI)) (ci := 2) (v := .int (I (pa P740046) 5)) (C := RX2) (T := TX2) (N := 6) hx hb hts hi2 hown hK hP j740054 hj740054 rfl 5 (by decide) (hts (.fieldLink RX5 58 "TallyLogs$Partition" "inStep" "I") (by decide +kernel)) (fun _ h9 => h9) rfl dX5_state_55 ?_
      refine lv_topi (fun x740055 ex740055 => ?_)
      have sx740055 : x740055 = σ.1 7 P740046 := ex740055.trans ((hE.pt P740046 hP740046).2 htP740046).2.1.2.2.2.2
      exact W.iret (v := x740055) hx hb hr (fun t ht hW => ⟨x740055, rfl, by show _ = _; unfold aSt; rw [if_neg hit740046, if_neg (sp_inl_yes (i := 0) (j := 3) (by decide) (by decide) (by decide)), cP740046, if_neg (by decide), if_neg (by decide), if_pos rfl]; exact sx740055, ht⟩) (fun _ h => by cases h) dX5_state_58
    by_cases hw740056 : wh = 3
    · obtain rfl : wh = 3 := hw740056
      refine lv_tableIn (off := 46) (tgt := 59) hx hb dX5_state_13 (by decide) (by decide) (by decide +kernel) (by decide) ?_
      refine lv_aload_n hx hb dX5_state_59 rfl (lv_at hl 0 rfl) ?_
      obtain ⟨j740058, hj740058⟩ := pG_2 (cy := cy) (N := N) (T := T) (I := I) (Q := Q) (J := J) (hE.pL hP740046 htP740046).1 (hE.pL hP740046 htP740046).2
      refine va_csq (W.runV (As := []) (rest := []) ⟨hx, hb, hml, hown, hts⟩ (g_X2_leading l dC dI cy v L K N T I Q J pa ra kx σ P740046 hE hP740046 htP740046) (cwV 0 hts gX5_state_X2_leading rfl rfl rfl (by decide +kernel) ⟨Nat.le_of_ble_eq_true rfl, Nat.le_of_ble_eq_true rfl⟩) ⟨pb_blind, va_recv hK hP (ci := 2) (q0 := j740058) rfl hj740058, fun U hU hW => ⟨rfl, pb_pre hP hK hN hU hW⟩⟩ rfl rfl hl.1 rfl (lv_room (Nat.le_of_ble_eq_true rfl)) dX5_state_60 ⟨Nat.le_of_ble_eq_true rfl, Nat.le_of_ble_eq_true rfl⟩) (fun r740057 hr740057 => ?_)
      rcases hr740057 with ⟨rfl, hno740059⟩ | ⟨n740059, hn740059, en740059, hl740059, rfl⟩
      · refine W.eq (g2 := F0 m 63 ls [.null]) rfl ?_
        have ho740059 := hPL740046.no hno740059
        refine vp_callSi (W.runS (As := [.null]) (rest := []) ⟨hx, hb, hml, hown, hts⟩ (g_X5_firstOpenOf0 l) (cwS 1 hts gX5_state_X5_firstOpenOf rfl rfl rfl (by decide +kernel) ⟨Nat.le_of_ble_eq_true rfl, Nat.le_of_ble_eq_true rfl⟩) preEq rfl rfl hl.1 rfl (lv_room (Nat.le_of_ble_eq_true rfl)) dX5_state_63 ⟨Nat.le_of_ble_eq_true rfl, Nat.le_of_ble_eq_true rfl⟩) (fun r740060 hr740060 => ?_)
        exact W.iret (v := r740060) hx hb hr (fun t ht hW => ⟨r740060, rfl, by show _ = _; unfold aSt; rw [if_neg hit740046, if_neg (sp_inl_yes (i := 0) (j := 3) (by decide) (by decide) (by decide)), cP740046, if_neg (by decide), if_neg (by decide), if_neg (by decide), ho740059]; exact hr740060, ht⟩) (fun _ h => by cases h) dX5_state_66
      · refine W.eq (g2 := F0 m 63 ls [.ref (ra (5 * P740046 + n740059))]) rfl ?_
        have hst740059 := hPL740046.at hn740059 en740059
        have ho740059 := oOw_c hn740059 en740059 hst740059.2
        have hLI740059 := hLA (5 * P740046 + n740059) (by omega)
        have hNl740059 := hLI740059.ln (by omega)
        obtain ⟨q1740059, q2740059, q3740059, q4740059, q5740059, q6740059⟩ := id hLI740059
        have hRF740059 := hSK.2.1 (5 * P740046 + n740059) (by omega)
        have hlO740059 := hl740059
        refine vp_callSi (W.runS (As := [.ref (ra (5 * P740046 + n740059))]) (rest := []) ⟨hx, hb, hml, hown, hts⟩ (g_X5_firstOpenOf l dC dI cy v L K N T I Q J pa ra kx σ P740046 n740059 hE hP740046 hn740059 hl740059 hNl740059 hRF740059.1) (cwS 1 hts gX5_state_X5_firstOpenOf rfl rfl rfl (by decide +kernel) ⟨Nat.le_of_ble_eq_true rfl, Nat.le_of_ble_eq_true rfl⟩) ⟨pb_blind, fun U hU hW => ⟨rfl, pb_pre hP hK hN hU hW⟩⟩ rfl rfl hl.1 rfl (lv_room (Nat.le_of_ble_eq_true rfl)) dX5_state_63 ⟨Nat.le_of_ble_eq_true rfl, Nat.le_of_ble_eq_true rfl⟩) (fun r740061 hr740061 => ?_)
        exact W.iret (v := r740061) hx hb hr (fun t ht hW => ⟨r740061, rfl, by show _ = _; unfold aSt; rw [if_neg hit740046, if_neg (sp_inl_yes (i := 0) (j := 3) (by decide) (by decide) (by decide)), cP740046, if_neg (by decide), if_neg (by decide), if_neg (by decide), ho740059]; exact hr740061, ht⟩) (fun _ h => by cases h) dX5_state_66
    refine lv_tableOut (tgt := 67) hx hb dX5_state_13 (by simp only [xk_eq, xk_lt, xk_le, xk_0, xk_1, xk_2, xk_3, xk_4, xk_5, xk_6, xk_7, xk_8, xk_50] at hw740047 hw740050 hw740053 hw740056; omega) (by decide) ?_
    refine lv_iconst (v := (-1)) hx hb dX5_state_67 (by decide) ?_
    exact W.iret (v := (-1)) hx hb hr (fun t ht hW => ⟨(-1), rfl, by show _ = _; unfold aSt; rw [if_neg hit740046, if_pos (sp_inl_no (i := 0) (j := 3) (by decide) (by decide) (by simp only [xk_eq, xk_lt, xk_le, xk_0, xk_1, xk_2, xk_3, xk_4, xk_5, xk_6, xk_7, xk_8, xk_50] at hw740047 hw740050 hw740053 hw740056; omega))], ht⟩) (fun _ h => by cases h) dX5_state_68
set_option maxHeartbeats 4000000 in
set_option maxRecDepth 100000 in
/-- record, exactly -/
theorem g_X5_record (l : Launch) (dC : Nat → ClassId) (dI : Nat → Nat → Nat) (cy : Nat → ClassId) (v : Nat → Nat) (L : List Nat) (K N : Nat → Nat) (T : Nat → Nat → Nat) (I : Nat → Nat → Int32) (Q : Nat → Nat → Option Nat) (J : Nat → Nat → Int32) (pa ra : Nat → Nat) (kx : Nat → Prop) (σ : SG) (E : Int) (xn xp xo wh : Int32) (hE : REP v pa ra L K N T I Q J kx σ) (hkx : kx = kxo σ) (hSK : SK σ) (hLA : LA E σ) (hE9 : E < 1900) (hB : B5 (σ.1 0 0)) : Met l yX5_record wsX5_record ({ frames := 2, cells := 0, slots := 0, locals := 44 }) (va_Pc [.ref (v 0), .int xn, .int xp, .int xo, .int wh] (pB dC dI cy L (pF cy K N T I Q J))) (vp_Sl (fun r => r = aRe σ xn xp xo wh)) 0 0 (fun _ => False) := by
  refine Met.ofW (cc := cX5_record) (maxL := 7) (ret := (some .long)) (by decide) rfl ?_
  intro p e s m args below meth c s₁ B hml hv
  obtain ⟨rfl, hP, hK, hN⟩ := hv
  have hx := B.exec
  have hb := B.bytes
  have hr := B.returns
  have hts := atoms_spec (ws := wsX5_record) B.pre
  have hown : s.vm.findClass RX5 = some m.cls := findClass_of_methodNamed B.named
  have hlocks := B.notSynchronized
  have hi5 : ∀ w ∈ wsX50, w ∈ wsX5_record := by decide +kernel
  have hi0 : ∀ w ∈ wsX00, w ∈ wsX5_record := by decide +kernel
  have hl := lv_entry ([.ref (v 0), .int xn, .int xp, .int xo, .int wh]) (n := 7) (Nat.le_of_ble_eq_true rfl)
  rw [lg_entry_eq]
  generalize (lg_sl ([.ref (v 0), .int xn, .int xp, .int xo, .int wh]) ++ List.replicate (7 - (lg_sl ([.ref (v 0), .int xn, .int xp, .int xo, .int wh])).length) Slot.unset).toArray = ls at hl ⊢
  have hl : lv_has ls 7 [(0, .ref (v 0)), (1, .int xn), (2, .int xp), (3, .int xo), (4, .int wh)] := hl
  have hn28 := hN.1
  have hn30 := hN.2.1
  have hn37 := hN.2.2.1
  have hC := hE.ct
  refine lv_aload_n hx hb dX5_record_0 rfl (lv_at hl 0 rfl) ?_
  refine lv_iload_n hx hb dX5_record_1 rfl (lv_at hl 1 rfl) ?_
  refine lv_iload_n hx hb dX5_record_2 rfl (lv_at hl 2 rfl) ?_
  obtain ⟨j740063, hj740063⟩ := pG_5 (cy := cy) (N := N) (T := T) (I := I) (Q := Q) (J := J) (hC.at 0 (by decide)) (hC.k 0 (by decide) rfl)
  refine va_csq (W.runV (As := [.int xn, .int xp]) (rest := []) ⟨hx, hb, hml, hown, hts⟩ (g_X5_replicaOf l dC dI cy v L K N T I Q J pa ra kx σ xn xp hE) (cwV 2 hts gX5_record_X5_replicaOf rfl rfl rfl (by decide +kernel) ⟨Nat.le_of_ble_eq_true rfl, Nat.le_of_ble_eq_true rfl⟩) ⟨pb_blind, va_recv hK hP (ci := 5) (q0 := j740063) rfl hj740063, fun U hU hW => ⟨rfl, pb_pre hP hK hN hU hW⟩⟩ rfl rfl hl.1 rfl (lv_room (Nat.le_of_ble_eq_true rfl)) dX5_record_3 ⟨Nat.le_of_ble_eq_true rfl, Nat.le_of_ble_eq_true rfl⟩) (fun r740062 hr740062 => ?_)
  rcases hr740062 with ⟨rfl, hrn740064⟩ | ⟨P740064, n740064, hP740064, hn740064, eP740064, en740064, hl740064, rfl⟩
  · refine W.eq (g2 := F0 m 6 ls [.null]) rfl ?_
    refine lv_astoreN (lv' := [(5, .null), (0, .ref (v 0)), (1, .int xn), (2, .int xp), (3, .int xo), (4, .int wh)]) hx hb dX5_record_6 hl (by decide) rfl (fun ls hl => ?_)
    refine lv_aloadN hx hb dX5_record_8 (lv_at hl 0 rfl) ?_
    refine lv_ifnonnullN hx hb dX5_record_10 ?_
    refine lv_null hx hb dX5_record_13 ?_
    refine lv_goto (tgt := 23) hx hb dX5_record_14 (by decide) ?_
    refine lv_astoreN (lv' := [(6, .null), (5, .null), (0, .ref (v 0)), (1, .int xn), (2, .int xp), (3, .int xo), (4, .int wh)]) hx hb dX5_record_23 hl (by decide) rfl (fun ls hl => ?_)
    refine lv_aloadN hx hb dX5_record_25 (lv_at hl 0 rfl) ?_
    refine lv_ifnonnullN hx hb dX5_record_27 ?_
    refine lv_ldc2 hx hb hown (hts (.constantLong RX5 239 1099511627776) (by decide +kernel)) dX5_record_30 ?_
    exact W.lret (v := 1099511627776) hx hb hr (fun t ht hW => ⟨1099511627776, rfl, by show _ = _; unfold aRe; rw [if_pos hrn740064], ht⟩) (fun _ h => by cases h) dX5_record_33
  · refine W.eq (g2 := F0 m 6 ls [.ref (ra (5 * P740064 + n740064))]) rfl ?_
    have cP740064 := nI_cl (by omega) eP740064
    have cn740064 := nI_cl (by omega) en740064
    have hir740064 := sp_ir_y (t := σ.1 2) (r := σ.1 3) hP740064 hn740064 eP740064 en740064 hl740064.1 hl740064.2
    have hlO740064 := hl740064
    have hLIr := hLA (5 * P740064 + n740064) (by omega)
    have hNr := hLIr.ln (by omega)
    obtain ⟨r1, r2, r3, r4, r5, r6⟩ := id hLIr
    refine lv_astore (lv' := [(5, .ref (ra (5 * P740064 + n740064))), (0, .ref (v 0)), (1, .int xn), (2, .int xp), (3, .int xo), (4, .int wh)]) hx hb dX5_record_6 hl (by decide) rfl (fun ls hl => ?_)
    refine lv_aload hx hb dX5_record_8 (lv_at hl 0 rfl) ?_
    refine lv_ifnonnull (tgt := 17) hx hb dX5_record_10 (by decide) ?_
    refine lv_aload hx hb dX5_record_17 (lv_at hl 0 rfl) ?_
    refine lv_iload_n hx hb dX5_record_19 rfl (lv_at hl 4 rfl) ?_
    obtain ⟨j740066, hj740066⟩ := pG_4 (cy := cy) (N := N) (T := T) (I := I) (Q := Q) (J := J) (hE.rL hP740064 hn740064 hl740064).1 (hE.rL hP740064 hn740064 hl740064).2
    refine va_csq (W.runV (As := [.int xo]) (rest := []) ⟨hx, hb, hml, hown, hts⟩ (g_X4_entryAt l dC dI cy v L K N T I Q J pa ra kx σ P740064 n740064 xo hE hP740064 hn740064 hl740064 hNr) (cwV 1 hts gX5_record_X4_entryAt rfl rfl rfl (by decide +kernel) ⟨Nat.le_of_ble_eq_true rfl, Nat.le_of_ble_eq_true rfl⟩) ⟨pb_blind, va_recv hK hP (ci := 4) (q0 := j740066) rfl hj740066, fun U hU hW => ⟨rfl, pb_pre hP hK hN hU hW⟩⟩ rfl rfl hl.1 rfl (lv_room (Nat.le_of_ble_eq_true rfl)) dX5_record_20 ⟨Nat.le_of_ble_eq_true rfl, Nat.le_of_ble_eq_true rfl⟩) (fun r740065 hr740065 => ?_)
    rcases hr740065 with ⟨hno740067, rfl⟩ | ⟨b740067, rfl, hb740067, hra740067, hbf740067⟩
    · refine W.eq (g2 := F0 m 23 ls [.null]) rfl ?_
      refine lv_astoreN (lv' := [(6, .null), (5, .ref (ra (5 * P740064 + n740064))), (0, .ref (v 0)), (1, .int xn), (2, .int xp), (3, .int xo), (4, .int wh)]) hx hb dX5_record_23 hl (by decide) rfl (fun ls hl => ?_)
      refine lv_aloadN hx hb dX5_record_25 (lv_at hl 0 rfl) ?_
      refine lv_ifnonnullN hx hb dX5_record_27 ?_
      refine lv_ldc2 hx hb hown (hts (.constantLong RX5 239 1099511627776) (by decide +kernel)) dX5_record_30 ?_
      exact W.lret (v := 1099511627776) hx hb hr (fun t ht hW => ⟨1099511627776, rfl, (by have hb9 : ((σ.2.1 (5 * P740064 + n740064) 2 - 1).toInt64).toInt = (σ.2.1 (5 * P740064 + n740064) 2).toInt - 1 := (by rw [Int32.toInt_toInt64, xsub (by rw [xk_1]; omega) (by rw [xk_1]; omega), xk_1]); show _ = _; unfold aRe; rw [if_neg hir740064, cP740064, cn740064]; by_cases z : sp_in wh.toInt64 0 6 = 0; (rw [if_pos z]); rw [if_neg z, if_pos (sp_inl_no (Int32.toInt_toInt64 _) hb9 (fun z => hno740067 ⟨z.1, by omega⟩))]), ht⟩) (fun _ h => by cases h) dX5_record_33
    · refine W.eq (g2 := F0 m 23 ls [.ref b740067]) rfl ?_
      obtain ⟨hra740067a, hra740067b⟩ := id hra740067
      refine lv_astore (lv' := [(6, .ref b740067), (5, .ref (ra (5 * P740064 + n740064))), (0, .ref (v 0)), (1, .int xn), (2, .int xp), (3, .int xo), (4, .int wh)]) hx hb dX5_record_23 hl (by decide) rfl (fun ls hl => ?_)
      refine lv_aload hx hb dX5_record_25 (lv_at hl 0 rfl) ?_
      refine lv_ifnonnull (tgt := 34) hx hb dX5_record_27 (by decide) ?_
      refine lv_iload hx hb dX5_record_34 (lv_at hl 6 rfl) ?_
      by_cases hw740068 : wh = 0
      · obtain rfl : wh = 0 := hw740068
        refine lv_tableIn (off := 44) (tgt := 80) hx hb dX5_record_36 (by decide) (by decide) (by decide +kernel) (by decide) ?_
        refine lv_aload hx hb dX5_record_80 (lv_at hl 0 rfl) ?_
        obtain ⟨j740069, hj740069⟩ := pG_0 (cy := cy) (N := N) (T := T) (I := I) (Q := Q) (J := J) hb740067.1 hb740067.2
        refine va_get (D := (dC, dI)) (ci := 0) (v := .int (I b740067 0)) (C := RX0) (T := TX0) (N := 8) hx hb hts hi0 hown hK hP j740069 hj740069 rfl 0 (by decide) (hts (.fieldLink RX5 178 "TallyLogs$Entry" "epoch" "I") (by decide +kernel)) (fun _ h9 => h9) rfl dX5_record_82 ?_
        refine lv_topi (fun x740070 ex740070 => ?_)
        have sx740070 : x740070 = σ.2.2 (5 * P740064 + n740064) xo.toNatClampNeg 0 := ex740070.trans (hbf740067 0 (by decide))
        refine lv_i2l (v := x740070.toInt64) hx hb dX5_record_85 rfl ?_
        exact W.lret (v := x740070.toInt64) hx hb hr (fun t ht hW => ⟨x740070.toInt64, rfl, (by have hb9 : ((σ.2.1 (5 * P740064 + n740064) 2 - 1).toInt64).toInt = (σ.2.1 (5 * P740064 + n740064) 2).toInt - 1 := (by rw [Int32.toInt_toInt64, xsub (by rw [xk_1]; omega) (by rw [xk_1]; omega), xk_1]); show _ = _; unfold aRe; rw [if_neg hir740064, cP740064, cn740064]; rw [if_neg (sp_inl_yes (i := 0) (j := 6) (by decide) (by decide) (by decide)), if_neg (sp_inl_yes (Int32.toInt_toInt64 _) hb9 ⟨by omega, by omega⟩), show (if (0 : Int32) < 3 then (0 : Int32) else 0 + 1).toNatClampNeg = 0 by decide]; rw [sx740070]), ht⟩) (fun _ h => by cases h) dX5_record_86
      by_cases hw740071 : wh = 1
      · obtain rfl : wh = 1 := hw740071
        refine lv_tableIn (off := 51) (tgt := 87) hx hb dX5_record_36 (by decide) (by decide) (by decide +kernel) (by decide) ?_
        refine lv_aload hx hb dX5_record_87 (lv_at hl 0 rfl) ?_
        obtain ⟨j740072, hj740072⟩ := pG_0 (cy := cy) (N := N) (T := T) (I := I) (Q := Q) (J := J) hb740067.1 hb740067.2
        refine va_get (D := (dC, dI)) (ci := 0) (v := .int (I b740067 1)) (C := RX0) (T := TX0) (N := 8) hx hb hts hi0 hown hK hP j740072 hj740072 rfl 1 (by decide) (hts (.fieldLink RX5 241 "TallyLogs$Entry" "kind" "I") (by decide +kernel)) (fun _ h9 => h9) rfl dX5_record_89 ?_
        refine lv_topi (fun x740073 ex740073 => ?_)
        have sx740073 : x740073 = σ.2.2 (5 * P740064 + n740064) xo.toNatClampNeg 1 := ex740073.trans (hbf740067 1 (by decide))
        refine lv_i2l (v := x740073.toInt64) hx hb dX5_record_92 rfl ?_
        exact W.lret (v := x740073.toInt64) hx hb hr (fun t ht hW => ⟨x740073.toInt64, rfl, (by have hb9 : ((σ.2.1 (5 * P740064 + n740064) 2 - 1).toInt64).toInt = (σ.2.1 (5 * P740064 + n740064) 2).toInt - 1 := (by rw [Int32.toInt_toInt64, xsub (by rw [xk_1]; omega) (by rw [xk_1]; omega), xk_1]); show _ = _; unfold aRe; rw [if_neg hir740064, cP740064, cn740064]; rw [if_neg (sp_inl_yes (i := 0) (j := 6) (by decide) (by decide) (by decide)), if_neg (sp_inl_yes (Int32.toInt_toInt64 _) hb9 ⟨by omega, by omega⟩), show (if (1 : Int32) < 3 then (1 : Int32) else 1 + 1).toNatClampNeg = 1 by decide]; rw [sx740073]), ht⟩) (fun _ h => by cases h) dX5_record_93
      by_cases hw740074 : wh = 2
      · obtain rfl : wh = 2 := hw740074
        refine lv_tableIn (off := 58) (tgt := 94) hx hb dX5_record_36 (by decide) (by decide) (by decide +kernel) (by decide) ?_
        refine lv_aload hx hb dX5_record_94 (lv_at hl 0 rfl) ?_
        obtain ⟨j740075, hj740075⟩ := pG_0 (cy := cy) (N := N) (T := T) (I := I) (Q := Q) (J := J) hb740067.1 hb740067.2
        refine va_get (D := (dC, dI)) (ci := 0) (v := .int (I b740067 2)) (C := RX0) (T := TX0) (N := 8) hx hb hts hi0 hown hK hP j740075 hj740075 rfl 2 (by decide) (hts (.fieldLink RX5 181 "TallyLogs$Entry" "producer" "I") (by decide +kernel)) (fun _ h9 => h9) rfl dX5_record_96 ?_
        refine lv_topi (fun x740076 ex740076 => ?_)
        have sx740076 : x740076 = σ.2.2 (5 * P740064 + n740064) xo.toNatClampNeg 2 := ex740076.trans (hbf740067 2 (by decide))
        refine lv_i2l (v := x740076.toInt64) hx hb dX5_record_99 rfl ?_
        exact W.lret (v := x740076.toInt64) hx hb hr (fun t ht hW => ⟨x740076.toInt64, rfl, (by have hb9 : ((σ.2.1 (5 * P740064 + n740064) 2 - 1).toInt64).toInt = (σ.2.1 (5 * P740064 + n740064) 2).toInt - 1 := (by rw [Int32.toInt_toInt64, xsub (by rw [xk_1]; omega) (by rw [xk_1]; omega), xk_1]); show _ = _; unfold aRe; rw [if_neg hir740064, cP740064, cn740064]; rw [if_neg (sp_inl_yes (i := 0) (j := 6) (by decide) (by decide) (by decide)), if_neg (sp_inl_yes (Int32.toInt_toInt64 _) hb9 ⟨by omega, by omega⟩), show (if (2 : Int32) < 3 then (2 : Int32) else 2 + 1).toNatClampNeg = 2 by decide]; rw [sx740076]), ht⟩) (fun _ h => by cases h) dX5_record_100
      by_cases hw740077 : wh = 3
      · obtain rfl : wh = 3 := hw740077
        refine lv_tableIn (off := 65) (tgt := 101) hx hb dX5_record_36 (by decide) (by decide) (by decide +kernel) (by decide) ?_
        refine lv_aload hx hb dX5_record_101 (lv_at hl 0 rfl) ?_
        obtain ⟨j740078, hj740078⟩ := pG_0 (cy := cy) (N := N) (T := T) (I := I) (Q := Q) (J := J) hb740067.1 hb740067.2
        refine va_get (D := (dC, dI)) (ci := 0) (v := .int (I b740067 4)) (C := RX0) (T := TX0) (N := 8) hx hb hts hi0 hown hK hP j740078 hj740078 rfl 4 (by decide) (hts (.fieldLink RX5 185 "TallyLogs$Entry" "seq" "I") (by decide +kernel)) (fun _ h9 => h9) rfl dX5_record_103 ?_
        refine lv_topi (fun x740079 ex740079 => ?_)
        have sx740079 : x740079 = σ.2.2 (5 * P740064 + n740064) xo.toNatClampNeg 4 := ex740079.trans (hbf740067 4 (by decide))
        refine lv_i2l (v := x740079.toInt64) hx hb dX5_record_106 rfl ?_
        exact W.lret (v := x740079.toInt64) hx hb hr (fun t ht hW => ⟨x740079.toInt64, rfl, (by have hb9 : ((σ.2.1 (5 * P740064 + n740064) 2 - 1).toInt64).toInt = (σ.2.1 (5 * P740064 + n740064) 2).toInt - 1 := (by rw [Int32.toInt_toInt64, xsub (by rw [xk_1]; omega) (by rw [xk_1]; omega), xk_1]); show _ = _; unfold aRe; rw [if_neg hir740064, cP740064, cn740064]; rw [if_neg (sp_inl_yes (i := 0) (j := 6) (by decide) (by decide) (by decide)), if_neg (sp_inl_yes (Int32.toInt_toInt64 _) hb9 ⟨by omega, by omega⟩), show (if (3 : Int32) < 3 then (3 : Int32) else 3 + 1).toNatClampNeg = 4 by decide]; rw [sx740079]), ht⟩) (fun _ h => by cases h) dX5_record_107
      by_cases hw740080 : wh = 4
      · obtain rfl : wh = 4 := hw740080
        refine lv_tableIn (off := 72) (tgt := 108) hx hb dX5_record_36 (by decide) (by decide) (by decide +kernel) (by decide) ?_
        refine lv_aload hx hb dX5_record_108 (lv_at hl 0 rfl) ?_
        obtain ⟨j740081, hj740081⟩ := pG_0 (cy := cy) (N := N) (T := T) (I := I) (Q := Q) (J := J) hb740067.1 hb740067.2
        refine va_get (D := (dC, dI)) (ci := 0) (v := .int (I b740067 5)) (C := RX0) (T := TX0) (N := 8) hx hb hts hi0 hown hK hP j740081 hj740081 rfl 5 (by decide) (hts (.fieldLink RX5 188 "TallyLogs$Entry" "key" "I") (by decide +kernel)) (fun _ h9 => h9) rfl dX5_record_110 ?_
        refine lv_topi (fun x740082 ex740082 => ?_)
        have sx740082 : x740082 = σ.2.2 (5 * P740064 + n740064) xo.toNatClampNeg 5 := ex740082.trans (hbf740067 5 (by decide))
        refine lv_i2l (v := x740082.toInt64) hx hb dX5_record_113 rfl ?_
        exact W.lret (v := x740082.toInt64) hx hb hr (fun t ht hW => ⟨x740082.toInt64, rfl, (by have hb9 : ((σ.2.1 (5 * P740064 + n740064) 2 - 1).toInt64).toInt = (σ.2.1 (5 * P740064 + n740064) 2).toInt - 1 := (by rw [Int32.toInt_toInt64, xsub (by rw [xk_1]; omega) (by rw [xk_1]; omega), xk_1]); show _ = _; unfold aRe; rw [if_neg hir740064, cP740064, cn740064]; rw [if_neg (sp_inl_yes (i := 0) (j := 6) (by decide) (by decide) (by decide)), if_neg (sp_inl_yes (Int32.toInt_toInt64 _) hb9 ⟨by omega, by omega⟩), show (if (4 : Int32) < 3 then (4 : Int32) else 4 + 1).toNatClampNeg = 5 by decide]; rw [sx740082]), ht⟩) (fun _ h => by cases h) dX5_record_114
      by_cases hw740083 : wh = 5
      · obtain rfl : wh = 5 := hw740083
        refine lv_tableIn (off := 79) (tgt := 115) hx hb dX5_record_36 (by decide) (by decide) (by decide +kernel) (by decide) ?_
        refine lv_aload hx hb dX5_record_115 (lv_at hl 0 rfl) ?_
        obtain ⟨j740084, hj740084⟩ := pG_0 (cy := cy) (N := N) (T := T) (I := I) (Q := Q) (J := J) hb740067.1 hb740067.2
        refine va_get (D := (dC, dI)) (ci := 0) (v := .int (I b740067 6)) (C := RX0) (T := TX0) (N := 8) hx hb hts hi0 hown hK hP j740084 hj740084 rfl 6 (by decide) (hts (.fieldLink RX5 191 "TallyLogs$Entry" "value" "I") (by decide +kernel)) (fun _ h9 => h9) rfl dX5_record_117 ?_
        refine lv_topi (fun x740085 ex740085 => ?_)
        have sx740085 : x740085 = σ.2.2 (5 * P740064 + n740064) xo.toNatClampNeg 6 := ex740085.trans (hbf740067 6 (by decide))
        refine lv_i2l (v := x740085.toInt64) hx hb dX5_record_120 rfl ?_
        exact W.lret (v := x740085.toInt64) hx hb hr (fun t ht hW => ⟨x740085.toInt64, rfl, (by have hb9 : ((σ.2.1 (5 * P740064 + n740064) 2 - 1).toInt64).toInt = (σ.2.1 (5 * P740064 + n740064) 2).toInt - 1 := (by rw [Int32.toInt_toInt64, xsub (by rw [xk_1]; omega) (by rw [xk_1]; omega), xk_1]); show _ = _; unfold aRe; rw [if_neg hir740064, cP740064, cn740064]; rw [if_neg (sp_inl_yes (i := 0) (j := 6) (by decide) (by decide) (by decide)), if_neg (sp_inl_yes (Int32.toInt_toInt64 _) hb9 ⟨by omega, by omega⟩), show (if (5 : Int32) < 3 then (5 : Int32) else 5 + 1).toNatClampNeg = 6 by decide]; rw [sx740085]), ht⟩) (fun _ h => by cases h) dX5_record_121
      by_cases hw740086 : wh = 6
      · obtain rfl : wh = 6 := hw740086
        refine lv_tableIn (off := 86) (tgt := 122) hx hb dX5_record_36 (by decide) (by decide) (by decide +kernel) (by decide) ?_
        refine lv_aload hx hb dX5_record_122 (lv_at hl 0 rfl) ?_
        obtain ⟨j740087, hj740087⟩ := pG_0 (cy := cy) (N := N) (T := T) (I := I) (Q := Q) (J := J) hb740067.1 hb740067.2
        refine va_get (D := (dC, dI)) (ci := 0) (v := .int (I b740067 7)) (C := RX0) (T := TX0) (N := 8) hx hb hts hi0 hown hK hP j740087 hj740087 rfl 7 (by decide) (hts (.fieldLink RX5 244 "TallyLogs$Entry" "bound" "Z") (by decide +kernel)) (fun _ h9 => h9) rfl dX5_record_124 ?_
        refine lv_topi (fun x740088 ex740088 => ?_)
        have sx740088 : x740088 = σ.2.2 (5 * P740064 + n740064) xo.toNatClampNeg 7 := ex740088.trans (hbf740067 7 (by decide))
        refine lv_if_eq (tgt := 134) hx hb dX5_record_127 (by decide) (fun c740089 => ?_) (fun c740089 => ?_)
        · have kc740089 : x740088.toInt = 0 := by have h9 := c740089; rw [xk_eq, xk_0] at h9; exact h9
          refine lv_lconst (v := 0) hx hb dX5_record_134 (by decide) ?_
          exact W.lret (v := 0) hx hb hr (fun t ht hW => ⟨0, rfl, (by have hb9 : ((σ.2.1 (5 * P740064 + n740064) 2 - 1).toInt64).toInt = (σ.2.1 (5 * P740064 + n740064) 2).toInt - 1 := (by rw [Int32.toInt_toInt64, xsub (by rw [xk_1]; omega) (by rw [xk_1]; omega), xk_1]); show _ = _; unfold aRe; rw [if_neg hir740064, cP740064, cn740064]; rw [if_neg (sp_inl_yes (i := 0) (j := 6) (by decide) (by decide) (by decide)), if_neg (sp_inl_yes (Int32.toInt_toInt64 _) hb9 ⟨by omega, by omega⟩), show (if (6 : Int32) < 3 then (6 : Int32) else 6 + 1).toNatClampNeg = 7 by decide]; rw [← sx740088, c740089]; rfl), ht⟩) (fun _ h => by cases h) dX5_record_135
        · have kc740089 : ¬ (x740088.toInt = 0) := by have h9 := c740089; rw [xk_eq, xk_0] at h9; exact h9
          refine lv_lconst (v := 1) hx hb dX5_record_130 (by decide) ?_
          refine lv_goto (tgt := 135) hx hb dX5_record_131 (by decide) ?_
          exact W.lret (v := 1) hx hb hr (fun t ht hW => ⟨1, rfl, (by have hb9 : ((σ.2.1 (5 * P740064 + n740064) 2 - 1).toInt64).toInt = (σ.2.1 (5 * P740064 + n740064) 2).toInt - 1 := (by rw [Int32.toInt_toInt64, xsub (by rw [xk_1]; omega) (by rw [xk_1]; omega), xk_1]); show _ = _; unfold aRe; rw [if_neg hir740064, cP740064, cn740064]; rw [if_neg (sp_inl_yes (i := 0) (j := 6) (by decide) (by decide) (by decide)), if_neg (sp_inl_yes (Int32.toInt_toInt64 _) hb9 ⟨by omega, by omega⟩), show (if (6 : Int32) < 3 then (6 : Int32) else 6 + 1).toNatClampNeg = 7 by decide]; rw [(hSK.2.1 (5 * P740064 + n740064) (by omega)).1.bd (zb_le (by omega)) (lt_ze (by omega) (by omega)) (by rw [← sx740088]; exact c740089)]; rfl), ht⟩) (fun _ h => by cases h) dX5_record_135
      refine lv_tableOut (tgt := 136) hx hb dX5_record_36 (by simp only [xk_eq, xk_lt, xk_le, xk_0, xk_1, xk_2, xk_3, xk_4, xk_5, xk_6, xk_7, xk_8, xk_50] at hw740068 hw740071 hw740074 hw740077 hw740080 hw740083 hw740086; omega) (by decide) ?_
      refine lv_ldc2 hx hb hown (hts (.constantLong RX5 239 1099511627776) (by decide +kernel)) dX5_record_136 ?_
      exact W.lret (v := 1099511627776) hx hb hr (fun t ht hW => ⟨1099511627776, rfl, (by have hb9 : ((σ.2.1 (5 * P740064 + n740064) 2 - 1).toInt64).toInt = (σ.2.1 (5 * P740064 + n740064) 2).toInt - 1 := (by rw [Int32.toInt_toInt64, xsub (by rw [xk_1]; omega) (by rw [xk_1]; omega), xk_1]); show _ = _; unfold aRe; rw [if_neg hir740064, cP740064, cn740064]; rw [if_pos (sp_inl_no (i := 0) (j := 6) (by decide) (by decide) (by simp only [xk_eq, xk_lt, xk_le, xk_0, xk_1, xk_2, xk_3, xk_4, xk_5, xk_6, xk_7, xk_8, xk_50] at hw740068 hw740071 hw740074 hw740077 hw740080 hw740083 hw740086; omega))]), ht⟩) (fun _ h => by cases h) dX5_record_139
