section
-- ===== PART A: goes FIRST, ahead of the names: the tables' words, and 'selects' of the private methods out of them =====
/-- a private method of a class that the tables say can be made, by its rows of tables_1 -/
def lw_okq (q : MethodName × Nat) : Prop := (q.1.cls ≠ "java/lang/invoke/MethodHandle" ∧ q.1.cls ≠ "java/lang/invoke/VarHandle") ∧ Cond.instantiable q.1.cls q.2 ∈ tables_1 ∧ Cond.privateMethod q.1 ∈ tables_1 ∧ Cond.instanceMethod q.1 ∈ tables_1
theorem lw_p0 : lw_okq (⟨"TallyLogs", "partitionAt", "(I)LTallyLogs$Partition;"⟩, 6) := ⟨⟨by decide +kernel, by decide +kernel⟩, List.mem_of_getElem? (i := 14) (by decide +kernel), List.mem_of_getElem? (i := 186) (by decide +kernel), List.mem_of_getElem? (i := 187) (by decide +kernel)⟩
theorem lw_p1 : lw_okq (⟨"TallyLogs", "producerAt", "(I)LTallyLogs$Producer;"⟩, 6) := ⟨⟨by decide +kernel, by decide +kernel⟩, List.mem_of_getElem? (i := 14) (by decide +kernel), List.mem_of_getElem? (i := 221) (by decide +kernel), List.mem_of_getElem? (i := 222) (by decide +kernel)⟩
theorem lw_p2 : lw_okq (⟨"TallyLogs", "producerOf", "(I)LTallyLogs$Producer;"⟩, 6) := ⟨⟨by decide +kernel, by decide +kernel⟩, List.mem_of_getElem? (i := 14) (by decide +kernel), List.mem_of_getElem? (i := 233) (by decide +kernel), List.mem_of_getElem? (i := 234) (by decide +kernel)⟩
theorem lw_p3 : lw_okq (⟨"TallyLogs", "groupAt", "(I)LTallyLogs$Group;"⟩, 6) := ⟨⟨by decide +kernel, by decide +kernel⟩, List.mem_of_getElem? (i := 14) (by decide +kernel), List.mem_of_getElem? (i := 402) (by decide +kernel), List.mem_of_getElem? (i := 403) (by decide +kernel)⟩
theorem lw_p4 : lw_okq (⟨"TallyLogs", "placeOf", "(I)I"⟩, 6) := ⟨⟨by decide +kernel, by decide +kernel⟩, List.mem_of_getElem? (i := 14) (by decide +kernel), List.mem_of_getElem? (i := 410) (by decide +kernel), List.mem_of_getElem? (i := 411) (by decide +kernel)⟩
theorem lw_p5 : lw_okq (⟨"TallyLogs", "replicaOf", "(II)LTallyLogs$Replica;"⟩, 6) := ⟨⟨by decide +kernel, by decide +kernel⟩, List.mem_of_getElem? (i := 14) (by decide +kernel), List.mem_of_getElem? (i := 448) (by decide +kernel), List.mem_of_getElem? (i := 449) (by decide +kernel)⟩
theorem lw_p6 : lw_okq (⟨"TallyLogsModel", "isThere", "(I)Z"⟩, 18) := ⟨⟨by decide +kernel, by decide +kernel⟩, List.mem_of_getElem? (i := 496) (by decide +kernel), List.mem_of_getElem? (i := 611) (by decide +kernel), List.mem_of_getElem? (i := 612) (by decide +kernel)⟩
theorem lw_p7 : lw_okq (⟨"TallyLogsModel", "rise", "(I)V"⟩, 18) := ⟨⟨by decide +kernel, by decide +kernel⟩, List.mem_of_getElem? (i := 496) (by decide +kernel), List.mem_of_getElem? (i := 615) (by decide +kernel), List.mem_of_getElem? (i := 616) (by decide +kernel)⟩
theorem lw_p8 : lw_okq (⟨"TallyLogsModel", "own", "(I)LTallyLogsModel$Log;"⟩, 18) := ⟨⟨by decide +kernel, by decide +kernel⟩, List.mem_of_getElem? (i := 496) (by decide +kernel), List.mem_of_getElem? (i := 619) (by decide +kernel), List.mem_of_getElem? (i := 620) (by decide +kernel)⟩
theorem lw_p9 : lw_okq (⟨"TallyLogsModel", "isUp", "(I)Z"⟩, 18) := ⟨⟨by decide +kernel, by decide +kernel⟩, List.mem_of_getElem? (i := 496) (by decide +kernel), List.mem_of_getElem? (i := 623) (by decide +kernel), List.mem_of_getElem? (i := 624) (by decide +kernel)⟩
theorem lw_p10 : lw_okq (⟨"TallyLogsModel", "known", "(II)I"⟩, 18) := ⟨⟨by decide +kernel, by decide +kernel⟩, List.mem_of_getElem? (i := 496) (by decide +kernel), List.mem_of_getElem? (i := 629) (by decide +kernel), List.mem_of_getElem? (i := 630) (by decide +kernel)⟩
theorem lw_p11 : lw_okq (⟨"TallyLogsModel", "isReplica", "(II)Z"⟩, 18) := ⟨⟨by decide +kernel, by decide +kernel⟩, List.mem_of_getElem? (i := 496) (by decide +kernel), List.mem_of_getElem? (i := 667) (by decide +kernel), List.mem_of_getElem? (i := 668) (by decide +kernel)⟩
def lw_privs_1 : List (MethodName × Nat) := [(⟨"TallyLogs", "partitionAt", "(I)LTallyLogs$Partition;"⟩, 6), (⟨"TallyLogs", "producerAt", "(I)LTallyLogs$Producer;"⟩, 6), (⟨"TallyLogs", "producerOf", "(I)LTallyLogs$Producer;"⟩, 6), (⟨"TallyLogs", "groupAt", "(I)LTallyLogs$Group;"⟩, 6), (⟨"TallyLogs", "placeOf", "(I)I"⟩, 6), (⟨"TallyLogs", "replicaOf", "(II)LTallyLogs$Replica;"⟩, 6), (⟨"TallyLogsModel", "isThere", "(I)Z"⟩, 18), (⟨"TallyLogsModel", "rise", "(I)V"⟩, 18), (⟨"TallyLogsModel", "own", "(I)LTallyLogsModel$Log;"⟩, 18), (⟨"TallyLogsModel", "isUp", "(I)Z"⟩, 18), (⟨"TallyLogsModel", "known", "(II)I"⟩, 18), (⟨"TallyLogsModel", "isReplica", "(II)Z"⟩, 18)]
theorem lw_r1 : ∀ q ∈ lw_privs_1, lw_okq q := List.forall_mem_cons.mpr ⟨lw_p0, List.forall_mem_cons.mpr ⟨lw_p1, List.forall_mem_cons.mpr ⟨lw_p2, List.forall_mem_cons.mpr ⟨lw_p3, List.forall_mem_cons.mpr ⟨lw_p4, List.forall_mem_cons.mpr ⟨lw_p5, List.forall_mem_cons.mpr ⟨lw_p6, List.forall_mem_cons.mpr ⟨lw_p7, List.forall_mem_cons.mpr ⟨lw_p8, List.forall_mem_cons.mpr ⟨lw_p9, List.forall_mem_cons.mpr ⟨lw_p10, List.forall_mem_cons.mpr ⟨lw_p11, fun _ h => absurd h List.not_mem_nil⟩⟩⟩⟩⟩⟩⟩⟩⟩⟩⟩⟩
def lw_privs : List (MethodName × Nat) := lw_privs_1
def lw_tbl : List Cond := k2_sels lw_privs ++ tables_1
theorem lw_privs_ok : ∀ q ∈ lw_privs, lw_okq q := lw_r1
end
section
/-! ===== BEGIN words of one list among another's, by their places ===== -/
theorem goodIn_r {big : List Cond} (ws : List Cond) (ps : List Nat) (hp : ws = ps.filterMap (fun i => big[i]?)) (h : ws.all goodWord = true) : GoodIn big ws := by
  intro w hw
  have h1 := List.all_eq_true.mp h w hw
  rw [hp] at hw
  obtain ⟨i, -, hi⟩ := List.mem_filterMap.mp hw
  have hm : w ∈ big := by first | exact List.mem_of_getElem? hi | exact List.getElem?_mem hi
  exact ⟨hm, good_of_word h1⟩
theorem goodIn_app {big a b : List Cond} (ha : GoodIn big a) (hb : GoodIn big b) : GoodIn big (a ++ b) := fun w h => (List.mem_append.mp h).elim (ha w) (hb w)
theorem goodIn_ca {big a b : List Cond} {c : Cond} (ha : GoodIn big (c :: a)) (hb : GoodIn big b) : GoodIn big (c :: (a ++ b)) := fun w h => (List.mem_cons.mp h).elim (fun e => ha w (List.mem_cons.mpr (Or.inl e))) (fun h => (List.mem_append.mp h).elim (fun h => ha w (List.mem_cons.mpr (Or.inr h))) (hb w))
theorem goodIn_sub {big ws : List Cond} (hm : ∀ w ∈ ws, w ∈ big) (h : ws.all goodWord = true) : GoodIn big ws := fun w hw => ⟨hm w hw, good_of_word (List.all_eq_true.mp h w hw)⟩
/-! ===== END ===== -/

/-! ===== BEGIN printed: names, fields, word lists, decode rows ===== -/
def RX0 : String := "TallyLogs$Entry"
def TX0 : u_T := fun k => match k with
  | 0 => ("TallyLogs$Entry", "epoch", "I", true)
  | 1 => ("TallyLogs$Entry", "kind", "I", true)
  | 2 => ("TallyLogs$Entry", "producer", "I", true)
  | 3 => ("TallyLogs$Entry", "generation", "I", true)
  | 4 => ("TallyLogs$Entry", "seq", "I", true)
  | 5 => ("TallyLogs$Entry", "key", "I", true)
  | 6 => ("TallyLogs$Entry", "value", "I", true)
  | _ => ("TallyLogs$Entry", "bound", "Z", true)
def tyX0 : Nat → FieldType := fun k => match k with
  | 0 => .int
  | 1 => .int
  | 2 => .int
  | 3 => .int
  | 4 => .int
  | 5 => .int
  | 6 => .int
  | _ => .boolean
abbrev wsX00 : List Cond := u_ws RX0 TX0 8
theorem nmX0 : ∀ a, a < 8 → ∀ b, b < 8 → a ≠ b → (TX0 a).2.1 ≠ (TX0 b).2.1 := by decide +kernel
theorem tyX0_ok : ∀ k, k < 8 → parseFieldDescriptor (TX0 k).2.2.1 = some (tyX0 k) := by decide +kernel
abbrev cX0_init : ByteArray := prog_2_method_1_code
def yX0_init : MethodName := ⟨RX0, "<init>", "(IIIIIIZ)V"⟩
abbrev cX0_init_ : ByteArray := prog_2_method_2_code
def yX0_init_ : MethodName := ⟨RX0, "<init>", "(IIII)V"⟩
abbrev cX0_isDataBy : ByteArray := prog_2_method_3_code
def yX0_isDataBy : MethodName := ⟨RX0, "isDataBy", "(II)Z"⟩
abbrev cX0_isEndOf : ByteArray := prog_2_method_4_code
def yX0_isEndOf : MethodName := ⟨RX0, "isEndOf", "(LTallyLogs$Entry;)Z"⟩
def RX1 : String := "TallyLogs$Group"
def TX1 : u_T := fun k => match k with
  | 0 => ("TallyLogs$Group", "members", "I", false)
  | 1 => ("TallyLogs$Group", "round", "I", false)
  | _ => ("TallyLogs$Group", "offsets", "[I", true)
def tyX1 : Nat → FieldType := fun k => match k with
  | 0 => .int
  | 1 => .int
  | _ => .array .int
abbrev wsX10 : List Cond := u_ws RX1 TX1 3
theorem nmX1 : ∀ a, a < 3 → ∀ b, b < 3 → a ≠ b → (TX1 a).2.1 ≠ (TX1 b).2.1 := by decide +kernel
theorem tyX1_ok : ∀ k, k < 3 → parseFieldDescriptor (TX1 k).2.2.1 = some (tyX1 k) := by decide +kernel
abbrev cX1_init : ByteArray := prog_3_method_1_code
def yX1_init : MethodName := ⟨RX1, "<init>", "()V"⟩
abbrev cX1_memberAt : ByteArray := prog_3_method_2_code
def yX1_memberAt : MethodName := ⟨RX1, "memberAt", "(I)I"⟩
abbrev cX1_offsetFor : ByteArray := prog_3_method_3_code
def yX1_offsetFor : MethodName := ⟨RX1, "offsetFor", "(I)I"⟩
abbrev cX1_setOffset : ByteArray := prog_3_method_4_code
def yX1_setOffset : MethodName := ⟨RX1, "setOffset", "(II)V"⟩
def RX2 : String := "TallyLogs$Partition"
def TX2 : u_T := fun k => match k with
  | 0 => ("TallyLogs$Partition", "mask", "I", true)
  | 1 => ("TallyLogs$Partition", "min", "I", true)
  | 2 => ("TallyLogs$Partition", "replicas", "[LTallyLogs$Replica;", true)
  | 3 => ("TallyLogs$Partition", "leader", "I", false)
  | 4 => ("TallyLogs$Partition", "epoch", "I", false)
  | _ => ("TallyLogs$Partition", "inStep", "I", false)
def tyX2 : Nat → FieldType := fun k => match k with
  | 0 => .int
  | 1 => .int
  | 2 => .array (.object "TallyLogs$Replica")
  | 3 => .int
  | 4 => .int
  | _ => .int
abbrev wsX20 : List Cond := u_ws RX2 TX2 6
theorem nmX2 : ∀ a, a < 6 → ∀ b, b < 6 → a ≠ b → (TX2 a).2.1 ≠ (TX2 b).2.1 := by decide +kernel
theorem tyX2_ok : ∀ k, k < 6 → parseFieldDescriptor (TX2 k).2.2.1 = some (tyX2 k) := by decide +kernel
abbrev cX2_init : ByteArray := prog_4_method_1_code
def yX2_init : MethodName := ⟨RX2, "<init>", "(IIII)V"⟩
abbrev cX2_replicaAt : ByteArray := prog_4_method_2_code
def yX2_replicaAt : MethodName := ⟨RX2, "replicaAt", "(I)LTallyLogs$Replica;"⟩
abbrev cX2_leading : ByteArray := prog_4_method_3_code
def yX2_leading : MethodName := ⟨RX2, "leading", "()LTallyLogs$Replica;"⟩
abbrev cX2_knownEnd : ByteArray := prog_4_method_4_code
def yX2_knownEnd : MethodName := ⟨RX2, "knownEnd", "(I)I"⟩
abbrev cX2_raiseHw : ByteArray := prog_4_method_5_code
def yX2_raiseHw : MethodName := ⟨RX2, "raiseHw", "()V"⟩
abbrev cX2_putLeader : ByteArray := prog_4_method_6_code
def yX2_putLeader : MethodName := ⟨RX2, "putLeader", "(II)V"⟩
abbrev cX2_dropLate : ByteArray := prog_4_method_7_code
def yX2_dropLate : MethodName := ⟨RX2, "dropLate", "(I)I"⟩
abbrev cX2_lose : ByteArray := prog_4_method_8_code
def yX2_lose : MethodName := ⟨RX2, "lose", "(II)V"⟩
def RX3 : String := "TallyLogs$Producer"
def TX3 : u_T := fun k => match k with
  | 0 => ("TallyLogs$Producer", "number", "I", true)
  | 1 => ("TallyLogs$Producer", "generation", "I", false)
  | 2 => ("TallyLogs$Producer", "mode", "I", false)
  | 3 => ("TallyLogs$Producer", "commits", "Z", false)
  | 4 => ("TallyLogs$Producer", "boundGeneration", "I", false)
  | _ => ("TallyLogs$Producer", "left", "I", false)
def tyX3 : Nat → FieldType := fun k => match k with
  | 0 => .int
  | 1 => .int
  | 2 => .int
  | 3 => .boolean
  | 4 => .int
  | _ => .int
abbrev wsX30 : List Cond := u_ws RX3 TX3 6
theorem nmX3 : ∀ a, a < 6 → ∀ b, b < 6 → a ≠ b → (TX3 a).2.1 ≠ (TX3 b).2.1 := by decide +kernel
theorem tyX3_ok : ∀ k, k < 6 → parseFieldDescriptor (TX3 k).2.2.1 = some (tyX3 k) := by decide +kernel
abbrev cX3_init : ByteArray := prog_5_method_1_code
def yX3_init : MethodName := ⟨RX3, "<init>", "(I)V"⟩
abbrev cX3_open : ByteArray := prog_5_method_2_code
def yX3_open : MethodName := ⟨RX3, "open", "()V"⟩
abbrev cX3_startEnding : ByteArray := prog_5_method_3_code
def yX3_startEnding : MethodName := ⟨RX3, "startEnding", "(Z)V"⟩
def RX4 : String := "TallyLogs$Replica"
def TX4 : u_T := fun k => match k with
  | 0 => ("TallyLogs$Replica", "slots", "[LTallyLogs$Entry;", true)
  | 1 => ("TallyLogs$Replica", "start", "I", false)
  | 2 => ("TallyLogs$Replica", "end", "I", false)
  | 3 => ("TallyLogs$Replica", "hw", "I", false)
  | 4 => ("TallyLogs$Replica", "flushed", "I", false)
  | 5 => ("TallyLogs$Replica", "known", "I", false)
  | _ => ("TallyLogs$Replica", "caught", "I", false)
def tyX4 : Nat → FieldType := fun k => match k with
  | 0 => .array (.object "TallyLogs$Entry")
  | 1 => .int
  | 2 => .int
  | 3 => .int
  | 4 => .int
  | 5 => .int
  | _ => .int
abbrev wsX40 : List Cond := u_ws RX4 TX4 7
theorem nmX4 : ∀ a, a < 7 → ∀ b, b < 7 → a ≠ b → (TX4 a).2.1 ≠ (TX4 b).2.1 := by decide +kernel
theorem tyX4_ok : ∀ k, k < 7 → parseFieldDescriptor (TX4 k).2.2.1 = some (tyX4 k) := by decide +kernel
abbrev cX4_init : ByteArray := prog_6_method_1_code
def yX4_init : MethodName := ⟨RX4, "<init>", "(I)V"⟩
abbrev cX4_entryAt : ByteArray := prog_6_method_2_code
def yX4_entryAt : MethodName := ⟨RX4, "entryAt", "(I)LTallyLogs$Entry;"⟩
abbrev cX4_held : ByteArray := prog_6_method_3_code
def yX4_held : MethodName := ⟨RX4, "held", "()I"⟩
abbrev cX4_isFull : ByteArray := prog_6_method_4_code
def yX4_isFull : MethodName := ⟨RX4, "isFull", "()Z"⟩
abbrev cX4_append : ByteArray := prog_6_method_5_code
def yX4_append : MethodName := ⟨RX4, "append", "(LTallyLogs$Entry;)V"⟩
abbrev cX4_dropBefore : ByteArray := prog_6_method_6_code
def yX4_dropBefore : MethodName := ⟨RX4, "dropBefore", "(I)V"⟩
abbrev cX4_loseUnflushed : ByteArray := prog_6_method_7_code
def yX4_loseUnflushed : MethodName := ⟨RX4, "loseUnflushed", "(I)V"⟩
abbrev cX4_offsetOf : ByteArray := prog_6_method_8_code
def yX4_offsetOf : MethodName := ⟨RX4, "offsetOf", "(III)I"⟩
abbrev cX4_nextSeq : ByteArray := prog_6_method_9_code
def yX4_nextSeq : MethodName := ⟨RX4, "nextSeq", "(II)I"⟩
abbrev cX4_agreeWith : ByteArray := prog_6_method_10_code
def yX4_agreeWith : MethodName := ⟨RX4, "agreeWith", "(LTallyLogs$Replica;)V"⟩
abbrev cX4_hasSameEpoch : ByteArray := prog_6_method_11_code
def yX4_hasSameEpoch : MethodName := ⟨RX4, "hasSameEpoch", "(ILTallyLogs$Replica;)Z"⟩
abbrev cX4_fetchFrom : ByteArray := prog_6_method_12_code
def yX4_fetchFrom : MethodName := ⟨RX4, "fetchFrom", "(LTallyLogs$Replica;)I"⟩
abbrev cX4_endKindOf : ByteArray := prog_6_method_13_code
def yX4_endKindOf : MethodName := ⟨RX4, "endKindOf", "(LTallyLogs$Entry;I)I"⟩
abbrev cX4_firstOpen : ByteArray := prog_6_method_14_code
def yX4_firstOpen : MethodName := ⟨RX4, "firstOpen", "()I"⟩
abbrev cX4_firstVisible : ByteArray := prog_6_method_15_code
def yX4_firstVisible : MethodName := ⟨RX4, "firstVisible", "(IZ)I"⟩
abbrev cX4_isAborted : ByteArray := prog_6_method_16_code
def yX4_isAborted : MethodName := ⟨RX4, "isAborted", "(LTallyLogs$Entry;I)Z"⟩
def RX5 : String := "TallyLogs"
def TX5 : u_T := fun k => match k with
  | 0 => ("TallyLogs", "partitions", "[LTallyLogs$Partition;", true)
  | 1 => ("TallyLogs", "producers", "[LTallyLogs$Producer;", true)
  | 2 => ("TallyLogs", "groups", "[LTallyLogs$Group;", true)
  | 3 => ("TallyLogs", "up", "I", false)
  | 4 => ("TallyLogs", "now", "I", false)
  | _ => ("TallyLogs", "lastSeen", "LTallyLogs$Entry;", false)
def tyX5 : Nat → FieldType := fun k => match k with
  | 0 => .array (.object "TallyLogs$Partition")
  | 1 => .array (.object "TallyLogs$Producer")
  | 2 => .array (.object "TallyLogs$Group")
  | 3 => .int
  | 4 => .int
  | _ => .object "TallyLogs$Entry"
abbrev wsX50 : List Cond := u_ws RX5 TX5 6
theorem nmX5 : ∀ a, a < 6 → ∀ b, b < 6 → a ≠ b → (TX5 a).2.1 ≠ (TX5 b).2.1 := by decide +kernel
theorem tyX5_ok : ∀ k, k < 6 → parseFieldDescriptor (TX5 k).2.2.1 = some (tyX5 k) := by decide +kernel
abbrev cX5_init : ByteArray := prog_1_method_1_code
def yX5_init : MethodName := ⟨RX5, "<init>", "()V"⟩
abbrev cX5_create : ByteArray := prog_1_method_2_code
def yX5_create : MethodName := ⟨RX5, "create", "(III)I"⟩
abbrev cX5_elect : ByteArray := prog_1_method_3_code
def yX5_elect : MethodName := ⟨RX5, "elect", "(IZ)I"⟩
abbrev cX5_register : ByteArray := prog_1_method_4_code
def yX5_register : MethodName := ⟨RX5, "register", "(I)I"⟩
abbrev cX5_produce : ByteArray := prog_1_method_5_code
def yX5_produce : MethodName := ⟨RX5, "produce", "(IIIIIZ)I"⟩
abbrev cX5_begin : ByteArray := prog_1_method_6_code
def yX5_begin : MethodName := ⟨RX5, "begin", "(I)I"⟩
abbrev cX5_finish : ByteArray := prog_1_method_7_code
def yX5_finish : MethodName := ⟨RX5, "finish", "(IZ)I"⟩
abbrev cX5_settle : ByteArray := prog_1_method_8_code
def yX5_settle : MethodName := ⟨RX5, "settle", "(I)I"⟩
abbrev cX5_safe : ByteArray := prog_1_method_9_code
def yX5_safe : MethodName := ⟨RX5, "safe", "(II)I"⟩
abbrev cX5_follow : ByteArray := prog_1_method_10_code
def yX5_follow : MethodName := ⟨RX5, "follow", "(II)I"⟩
abbrev cX5_consume : ByteArray := prog_1_method_11_code
def yX5_consume : MethodName := ⟨RX5, "consume", "(IIZ)I"⟩
abbrev cX5_seen : ByteArray := prog_1_method_12_code
def yX5_seen : MethodName := ⟨RX5, "seen", "(I)I"⟩
abbrev cX5_member : ByteArray := prog_1_method_13_code
def yX5_member : MethodName := ⟨RX5, "member", "(II)I"⟩
abbrev cX5_owner : ByteArray := prog_1_method_14_code
def yX5_owner : MethodName := ⟨RX5, "owner", "(II)I"⟩
abbrev cX5_move : ByteArray := prog_1_method_15_code
def yX5_move : MethodName := ⟨RX5, "move", "(IIIII)I"⟩
abbrev cX5_position : ByteArray := prog_1_method_16_code
def yX5_position : MethodName := ⟨RX5, "position", "(II)I"⟩
abbrev cX5_tick : ByteArray := prog_1_method_17_code
def yX5_tick : MethodName := ⟨RX5, "tick", "(I)I"⟩
abbrev cX5_flush : ByteArray := prog_1_method_18_code
def yX5_flush : MethodName := ⟨RX5, "flush", "(II)I"⟩
abbrev cX5_crash : ByteArray := prog_1_method_19_code
def yX5_crash : MethodName := ⟨RX5, "crash", "(II)I"⟩
abbrev cX5_restart : ByteArray := prog_1_method_20_code
def yX5_restart : MethodName := ⟨RX5, "restart", "(I)I"⟩
abbrev cX5_trim : ByteArray := prog_1_method_21_code
def yX5_trim : MethodName := ⟨RX5, "trim", "(II)I"⟩
abbrev cX5_log : ByteArray := prog_1_method_22_code
def yX5_log : MethodName := ⟨RX5, "log", "(III)I"⟩
abbrev cX5_record : ByteArray := prog_1_method_23_code
def yX5_record : MethodName := ⟨RX5, "record", "(IIII)J"⟩
abbrev cX5_state : ByteArray := prog_1_method_24_code
def yX5_state : MethodName := ⟨RX5, "state", "(II)I"⟩
abbrev cX5_count : ByteArray := prog_1_method_25_code
def yX5_count : MethodName := ⟨RX5, "count", "(I)I"⟩
abbrev cX5_partitionAt : ByteArray := prog_1_method_26_code
def yX5_partitionAt : MethodName := ⟨RX5, "partitionAt", "(I)LTallyLogs$Partition;"⟩
abbrev cX5_replicaOf : ByteArray := prog_1_method_27_code
def yX5_replicaOf : MethodName := ⟨RX5, "replicaOf", "(II)LTallyLogs$Replica;"⟩
abbrev cX5_producerAt : ByteArray := prog_1_method_28_code
def yX5_producerAt : MethodName := ⟨RX5, "producerAt", "(I)LTallyLogs$Producer;"⟩
abbrev cX5_producerOf : ByteArray := prog_1_method_29_code
def yX5_producerOf : MethodName := ⟨RX5, "producerOf", "(I)LTallyLogs$Producer;"⟩
abbrev cX5_generationOf : ByteArray := prog_1_method_30_code
def yX5_generationOf : MethodName := ⟨RX5, "generationOf", "(I)I"⟩
abbrev cX5_groupAt : ByteArray := prog_1_method_31_code
def yX5_groupAt : MethodName := ⟨RX5, "groupAt", "(I)LTallyLogs$Group;"⟩
abbrev cX5_placeOf : ByteArray := prog_1_method_32_code
def yX5_placeOf : MethodName := ⟨RX5, "placeOf", "(I)I"⟩
abbrev cX5_newData : ByteArray := prog_1_method_33_code
def yX5_newData : MethodName := ⟨RX5, "newData", "(ILTallyLogs$Producer;III)LTallyLogs$Entry;"⟩
abbrev cX5_markEnd : ByteArray := prog_1_method_34_code
def yX5_markEnd : MethodName := ⟨RX5, "markEnd", "(LTallyLogs$Partition;LTallyLogs$Producer;)Z"⟩
abbrev cX5_firstOpenOf : ByteArray := prog_1_method_35_code
def yX5_firstOpenOf : MethodName := ⟨RX5, "firstOpenOf", "(LTallyLogs$Replica;)I"⟩
abbrev cX5_contains : ByteArray := prog_1_method_36_code
def yX5_contains : MethodName := ⟨RX5, "contains", "(II)Z"⟩
abbrev cX5_leastOf : ByteArray := prog_1_method_37_code
def yX5_leastOf : MethodName := ⟨RX5, "leastOf", "(I)I"⟩
def RX6 : String := "TallyLogsModel$Log"
def TX6 : u_T := fun k => match k with
  | 0 => ("TallyLogsModel$Log", "cell", "[I", true)
  | 1 => ("TallyLogsModel$Log", "start", "I", false)
  | 2 => ("TallyLogsModel$Log", "end", "I", false)
  | 3 => ("TallyLogsModel$Log", "high", "I", false)
  | 4 => ("TallyLogsModel$Log", "flushed", "I", false)
  | 5 => ("TallyLogsModel$Log", "known", "I", false)
  | _ => ("TallyLogsModel$Log", "caught", "I", false)
def tyX6 : Nat → FieldType := fun k => match k with
  | 0 => .array .int
  | 1 => .int
  | 2 => .int
  | 3 => .int
  | 4 => .int
  | 5 => .int
  | _ => .int
abbrev wsX60 : List Cond := u_ws RX6 TX6 7
theorem nmX6 : ∀ a, a < 7 → ∀ b, b < 7 → a ≠ b → (TX6 a).2.1 ≠ (TX6 b).2.1 := by decide +kernel
theorem tyX6_ok : ∀ k, k < 7 → parseFieldDescriptor (TX6 k).2.2.1 = some (tyX6 k) := by decide +kernel
abbrev cX6_init : ByteArray := prog_9_method_1_code
def yX6_init : MethodName := ⟨RX6, "<init>", "()V"⟩
abbrev cX6_get : ByteArray := prog_9_method_2_code
def yX6_get : MethodName := ⟨RX6, "get", "(II)I"⟩
abbrev cX6_many : ByteArray := prog_9_method_3_code
def yX6_many : MethodName := ⟨RX6, "many", "()I"⟩
abbrev cX6_from : ByteArray := prog_9_method_4_code
def yX6_from : MethodName := ⟨RX6, "from", "(I)V"⟩
abbrev cX6_add : ByteArray := prog_9_method_5_code
def yX6_add : MethodName := ⟨RX6, "add", "(IIIIIIII)V"⟩
abbrev cX6_take : ByteArray := prog_9_method_6_code
def yX6_take : MethodName := ⟨RX6, "take", "(LTallyLogsModel$Log;I)V"⟩
def RX7 : String := "TallyLogsModel"
def TX7 : u_T := fun k => match k with
  | 0 => ("TallyLogsModel", "log", "[[LTallyLogsModel$Log;", true)
  | 1 => ("TallyLogsModel", "there", "[Z", true)
  | 2 => ("TallyLogsModel", "replicas", "[I", true)
  | 3 => ("TallyLogsModel", "leader", "[I", true)
  | 4 => ("TallyLogsModel", "epoch", "[I", true)
  | 5 => ("TallyLogsModel", "min", "[I", true)
  | 6 => ("TallyLogsModel", "step", "[I", true)
  | 7 => ("TallyLogsModel", "generation", "[I", true)
  | 8 => ("TallyLogsModel", "mode", "[I", true)
  | 9 => ("TallyLogsModel", "bound", "[I", true)
  | 10 => ("TallyLogsModel", "endGeneration", "[I", true)
  | 11 => ("TallyLogsModel", "endKind", "[I", true)
  | 12 => ("TallyLogsModel", "members", "[I", true)
  | 13 => ("TallyLogsModel", "round", "[I", true)
  | 14 => ("TallyLogsModel", "position", "[I", true)
  | 15 => ("TallyLogsModel", "seen", "[I", true)
  | 16 => ("TallyLogsModel", "up", "I", false)
  | _ => ("TallyLogsModel", "now", "I", false)
def tyX7 : Nat → FieldType := fun k => match k with
  | 0 => .array (.array (.object "TallyLogsModel$Log"))
  | 1 => .array .boolean
  | 2 => .array .int
  | 3 => .array .int
  | 4 => .array .int
  | 5 => .array .int
  | 6 => .array .int
  | 7 => .array .int
  | 8 => .array .int
  | 9 => .array .int
  | 10 => .array .int
  | 11 => .array .int
  | 12 => .array .int
  | 13 => .array .int
  | 14 => .array .int
  | 15 => .array .int
  | 16 => .int
  | _ => .int
abbrev wsX70 : List Cond := u_ws RX7 TX7 18
theorem nmX7 : ∀ a, a < 18 → ∀ b, b < 18 → a ≠ b → (TX7 a).2.1 ≠ (TX7 b).2.1 := by decide +kernel
theorem tyX7_ok : ∀ k, k < 18 → parseFieldDescriptor (TX7 k).2.2.1 = some (tyX7 k) := by decide +kernel
abbrev cX7_in : ByteArray := prog_8_method_1_code
def yX7_in : MethodName := ⟨RX7, "in", "(JJJ)Z"⟩
abbrev cX7_init : ByteArray := prog_8_method_2_code
def yX7_init : MethodName := ⟨RX7, "<init>", "()V"⟩
abbrev cX7_isUp : ByteArray := prog_8_method_3_code
def yX7_isUp : MethodName := ⟨RX7, "isUp", "(I)Z"⟩
abbrev cX7_isThere : ByteArray := prog_8_method_4_code
def yX7_isThere : MethodName := ⟨RX7, "isThere", "(I)Z"⟩
abbrev cX7_isReplica : ByteArray := prog_8_method_5_code
def yX7_isReplica : MethodName := ⟨RX7, "isReplica", "(II)Z"⟩
abbrev cX7_own : ByteArray := prog_8_method_6_code
def yX7_own : MethodName := ⟨RX7, "own", "(I)LTallyLogsModel$Log;"⟩
abbrev cX7_known : ByteArray := prog_8_method_7_code
def yX7_known : MethodName := ⟨RX7, "known", "(II)I"⟩
abbrev cX7_rise : ByteArray := prog_8_method_8_code
def yX7_rise : MethodName := ⟨RX7, "rise", "(I)V"⟩
abbrev cX7_create : ByteArray := prog_8_method_9_code
def yX7_create : MethodName := ⟨RX7, "create", "(III)I"⟩
abbrev cX7_elect : ByteArray := prog_8_method_10_code
def yX7_elect : MethodName := ⟨RX7, "elect", "(IZ)I"⟩
abbrev cX7_register : ByteArray := prog_8_method_11_code
def yX7_register : MethodName := ⟨RX7, "register", "(I)I"⟩
abbrev cX7_isHandle : ByteArray := prog_8_method_12_code
def yX7_isHandle : MethodName := ⟨RX7, "isHandle", "(I)Z"⟩
abbrev cX7_produce : ByteArray := prog_8_method_13_code
def yX7_produce : MethodName := ⟨RX7, "produce", "(IIIIIZ)I"⟩
abbrev cX7_safe : ByteArray := prog_8_method_14_code
def yX7_safe : MethodName := ⟨RX7, "safe", "(II)I"⟩
abbrev cX7_follow : ByteArray := prog_8_method_15_code
def yX7_follow : MethodName := ⟨RX7, "follow", "(II)I"⟩
abbrev cX7_begin : ByteArray := prog_8_method_16_code
def yX7_begin : MethodName := ⟨RX7, "begin", "(I)I"⟩
abbrev cX7_finish : ByteArray := prog_8_method_17_code
def yX7_finish : MethodName := ⟨RX7, "finish", "(IZ)I"⟩
abbrev cX7_settle : ByteArray := prog_8_method_18_code
def yX7_settle : MethodName := ⟨RX7, "settle", "(I)I"⟩
abbrev cX7_endOf : ByteArray := prog_8_method_19_code
def yX7_endOf : MethodName := ⟨RX7, "endOf", "(LTallyLogsModel$Log;I)I"⟩
abbrev cX7_firstOpen : ByteArray := prog_8_method_20_code
def yX7_firstOpen : MethodName := ⟨RX7, "firstOpen", "(LTallyLogsModel$Log;)I"⟩
abbrev cX7_consume : ByteArray := prog_8_method_21_code
def yX7_consume : MethodName := ⟨RX7, "consume", "(IIZ)I"⟩
abbrev cX7_seen : ByteArray := prog_8_method_22_code
def yX7_seen : MethodName := ⟨RX7, "seen", "(I)I"⟩
abbrev cX7_member : ByteArray := prog_8_method_23_code
def yX7_member : MethodName := ⟨RX7, "member", "(II)I"⟩
abbrev cX7_owner : ByteArray := prog_8_method_24_code
def yX7_owner : MethodName := ⟨RX7, "owner", "(II)I"⟩
abbrev cX7_move : ByteArray := prog_8_method_25_code
def yX7_move : MethodName := ⟨RX7, "move", "(IIIII)I"⟩
abbrev cX7_position : ByteArray := prog_8_method_26_code
def yX7_position : MethodName := ⟨RX7, "position", "(II)I"⟩
abbrev cX7_tick : ByteArray := prog_8_method_27_code
def yX7_tick : MethodName := ⟨RX7, "tick", "(I)I"⟩
abbrev cX7_flush : ByteArray := prog_8_method_28_code
def yX7_flush : MethodName := ⟨RX7, "flush", "(II)I"⟩
abbrev cX7_crash : ByteArray := prog_8_method_29_code
def yX7_crash : MethodName := ⟨RX7, "crash", "(II)I"⟩
abbrev cX7_restart : ByteArray := prog_8_method_30_code
def yX7_restart : MethodName := ⟨RX7, "restart", "(I)I"⟩
abbrev cX7_trim : ByteArray := prog_8_method_31_code
def yX7_trim : MethodName := ⟨RX7, "trim", "(II)I"⟩
abbrev cX7_log : ByteArray := prog_8_method_32_code
def yX7_log : MethodName := ⟨RX7, "log", "(III)I"⟩
abbrev cX7_record : ByteArray := prog_8_method_33_code
def yX7_record : MethodName := ⟨RX7, "record", "(IIII)J"⟩
abbrev cX7_state : ByteArray := prog_8_method_34_code
def yX7_state : MethodName := ⟨RX7, "state", "(II)I"⟩
abbrev cX7_count : ByteArray := prog_8_method_35_code
def yX7_count : MethodName := ⟨RX7, "count", "(I)I"⟩
def RJ6 : String := "java/lang/Integer"
def TJ6 : u_T := fun k => match k with
  | _ => ("", "", "", false)
def tyJ6 : Nat → FieldType := fun k => match k with
  | _ => .int
abbrev wsJ60 : List Cond := u_ws RJ6 TJ6 0
theorem nmJ6 : ∀ a, a < 0 → ∀ b, b < 0 → a ≠ b → (TJ6 a).2.1 ≠ (TJ6 b).2.1 := by decide +kernel
theorem tyJ6_ok : ∀ k, k < 0 → parseFieldDescriptor (TJ6 k).2.2.1 = some (tyJ6 k) := by decide +kernel
abbrev cJ6_numberOfTrailingZeros_0f7a4 : ByteArray := prog_10_method_48_code
def yJ6_numberOfTrailingZeros_0f7a4 : MethodName := ⟨RJ6, "numberOfTrailingZeros", "(I)I"⟩
abbrev cJ6_bitCount_0f7a4 : ByteArray := prog_10_method_49_code
def yJ6_bitCount_0f7a4 : MethodName := ⟨RJ6, "bitCount", "(I)I"⟩
def RJ9 : String := "java/lang/Math"
def TJ9 : u_T := fun k => match k with
  | _ => ("", "", "", false)
def tyJ9 : Nat → FieldType := fun k => match k with
  | _ => .int
abbrev wsJ90 : List Cond := u_ws RJ9 TJ9 0
theorem nmJ9 : ∀ a, a < 0 → ∀ b, b < 0 → a ≠ b → (TJ9 a).2.1 ≠ (TJ9 b).2.1 := by decide +kernel
theorem tyJ9_ok : ∀ k, k < 0 → parseFieldDescriptor (TJ9 k).2.2.1 = some (tyJ9 k) := by decide +kernel
abbrev cJ9_floorMod_7cf53 : ByteArray := prog_11_method_50_code
def yJ9_floorMod_7cf53 : MethodName := ⟨RJ9, "floorMod", "(II)I"⟩
abbrev cJ9_max_7cf53 : ByteArray := prog_11_method_65_code
def yJ9_max_7cf53 : MethodName := ⟨RJ9, "max", "(II)I"⟩
abbrev cJ9_min_7cf53 : ByteArray := prog_11_method_69_code
def yJ9_min_7cf53 : MethodName := ⟨RJ9, "min", "(II)I"⟩
abbrev cJ9_min_f86c9 : ByteArray := prog_11_method_70_code
def yJ9_min_f86c9 : MethodName := ⟨RJ9, "min", "(JJ)J"⟩
def RJ10 : String := "java/lang/System"
def TJ10 : u_T := fun k => match k with
  | _ => ("", "", "", false)
def tyJ10 : Nat → FieldType := fun k => match k with
  | _ => .int
abbrev wsJ100 : List Cond := u_ws RJ10 TJ10 0
theorem nmJ10 : ∀ a, a < 0 → ∀ b, b < 0 → a ≠ b → (TJ10 a).2.1 ≠ (TJ10 b).2.1 := by decide +kernel
theorem tyJ10_ok : ∀ k, k < 0 → parseFieldDescriptor (TJ10 k).2.2.1 = some (tyJ10 k) := by decide +kernel
def RJ7 : String := "java/util/Arrays"
def TJ7 : u_T := fun k => match k with
  | _ => ("", "", "", false)
def tyJ7 : Nat → FieldType := fun k => match k with
  | _ => .int
abbrev wsJ70 : List Cond := u_ws RJ7 TJ7 0
theorem nmJ7 : ∀ a, a < 0 → ∀ b, b < 0 → a ≠ b → (TJ7 a).2.1 ≠ (TJ7 b).2.1 := by decide +kernel
theorem tyJ7_ok : ∀ k, k < 0 → parseFieldDescriptor (TJ7 k).2.2.1 = some (tyJ7 k) := by decide +kernel
abbrev cJ7_fill_53178 : ByteArray := prog_13_method_103_code
def yJ7_fill_53178 : MethodName := ⟨RJ7, "fill", "([II)V"⟩
def RL : String := "TallyLogsLaw"
abbrev cL_law : ByteArray := code
def yL_law : MethodName := ⟨RL, "law", "([I)Z"⟩
def wsX0_init : List Cond := .code yX0_init cX0_init 8 none :: ([.methodLink RX0 3 objectInit, .instanceMethod objectInit, .code objectInit ⟨#[0xb1]⟩ 1 none, .fieldLink RX0 9 "TallyLogs$Entry" "epoch" "I", .fieldLink RX0 15 "TallyLogs$Entry" "kind" "I", .fieldLink RX0 18 "TallyLogs$Entry" "producer" "I", .fieldLink RX0 21 "TallyLogs$Entry" "generation" "I", .fieldLink RX0 24 "TallyLogs$Entry" "seq" "I", .fieldLink RX0 27 "TallyLogs$Entry" "key" "I", .fieldLink RX0 30 "TallyLogs$Entry" "value" "I", .fieldLink RX0 33 "TallyLogs$Entry" "bound" "Z"] ++ wsX00)
def wsX0_init_ : List Cond := .code yX0_init_ cX0_init_ 5 none :: ([.methodLink RX0 3 objectInit, .instanceMethod objectInit, .code objectInit ⟨#[0xb1]⟩ 1 none, .fieldLink RX0 9 "TallyLogs$Entry" "epoch" "I", .fieldLink RX0 15 "TallyLogs$Entry" "kind" "I", .fieldLink RX0 18 "TallyLogs$Entry" "producer" "I", .fieldLink RX0 21 "TallyLogs$Entry" "generation" "I", .fieldLink RX0 24 "TallyLogs$Entry" "seq" "I", .fieldLink RX0 27 "TallyLogs$Entry" "key" "I", .fieldLink RX0 30 "TallyLogs$Entry" "value" "I", .fieldLink RX0 33 "TallyLogs$Entry" "bound" "Z"] ++ wsX00)
def wsX0_isDataBy : List Cond := .code yX0_isDataBy cX0_isDataBy 3 (some .boolean) :: ([.fieldLink RX0 15 "TallyLogs$Entry" "kind" "I", .fieldLink RX0 18 "TallyLogs$Entry" "producer" "I", .fieldLink RX0 21 "TallyLogs$Entry" "generation" "I"] ++ wsX00)
def wsX0_isEndOf : List Cond := .code yX0_isEndOf cX0_isEndOf 2 (some .boolean) :: ([.fieldLink RX0 15 "TallyLogs$Entry" "kind" "I", .fieldLink RX0 18 "TallyLogs$Entry" "producer" "I", .fieldLink RX0 21 "TallyLogs$Entry" "generation" "I"] ++ wsX00)
def wsX1_init : List Cond := .code yX1_init cX1_init 1 none :: ([.methodLink RX1 3 objectInit, .instanceMethod objectInit, .code objectInit ⟨#[0xb1]⟩ 1 none, .fieldLink RX1 9 "TallyLogs$Group" "members" "I", .fieldLink RX1 15 "TallyLogs$Group" "round" "I", .arrayClass .int, .fieldLink RX1 18 "TallyLogs$Group" "offsets" "[I"] ++ wsX10)
def wsJ6_bitCount_0f7a4 : List Cond := .code yJ6_bitCount_0f7a4 cJ6_bitCount_0f7a4 1 (some .int) :: ([.constant RJ6 265 (1431655765), .constant RJ6 266 (858993459), .constant RJ6 267 (252645135)])
def wsX5_contains : List Cond := .code yX5_contains cX5_contains 2 (some .boolean) :: ([])
def wsX1_memberAt : List Cond := .code yX1_memberAt cX1_memberAt 5 (some .int) :: ([.fieldLink RX1 9 "TallyLogs$Group" "members" "I", .methodLink RX1 22 yJ6_bitCount_0f7a4, .static yJ6_bitCount_0f7a4, .initialized RJ6, .code yJ6_bitCount_0f7a4 cJ6_bitCount_0f7a4 1 (some .int), .constant RJ6 265 (1431655765), .constant RJ6 266 (858993459), .constant RJ6 267 (252645135), .static yX5_contains, .initialized RX5, .code yX5_contains cX5_contains 2 (some .boolean)] ++ wsX10)
def wsX1_offsetFor : List Cond := .code yX1_offsetFor cX1_offsetFor 2 (some .int) :: ([.fieldLink RX1 18 "TallyLogs$Group" "offsets" "[I"] ++ wsX10)
def wsX1_setOffset : List Cond := .code yX1_setOffset cX1_setOffset 3 none :: ([.fieldLink RX1 18 "TallyLogs$Group" "offsets" "[I"] ++ wsX10)
def wsX5_leastOf : List Cond := .code yX5_leastOf cX5_leastOf 2 (some .int) :: ([.methodLink RX5 138 yX5_contains, .static yX5_contains, .initialized RX5, .code yX5_contains cX5_contains 2 (some .boolean)])
def wsX4_init : List Cond := .code yX4_init cX4_init 2 none :: ([.methodLink RX4 3 objectInit, .instanceMethod objectInit, .code objectInit ⟨#[0xb1]⟩ 1 none, .classLink RX4 9 RX0, .fieldLink RX4 11 "TallyLogs$Replica" "slots" "[LTallyLogs$Entry;", .fieldLink RX4 17 "TallyLogs$Replica" "start" "I", .fieldLink RX4 21 "TallyLogs$Replica" "end" "I", .fieldLink RX4 24 "TallyLogs$Replica" "hw" "I", .fieldLink RX4 27 "TallyLogs$Replica" "flushed" "I", .fieldLink RX4 30 "TallyLogs$Replica" "known" "I", .fieldLink RX4 33 "TallyLogs$Replica" "caught" "I"] ++ wsX40)
def wsX2_init_r1 : List Cond := [Cond.methodLink RX2 3 objectInit, Cond.instanceMethod objectInit, Cond.code objectInit ⟨#[0xb1]⟩ 1 none, Cond.classLink RX2 9 RX4, Cond.fieldLink RX2 11 "TallyLogs$Partition" "replicas" "[LTallyLogs$Replica;", Cond.fieldLink RX2 17 "TallyLogs$Partition" "epoch" "I", Cond.fieldLink RX2 21 "TallyLogs$Partition" "mask" "I", Cond.fieldLink RX2 24 "TallyLogs$Partition" "min" "I", Cond.fieldLink RX2 27 "TallyLogs$Partition" "inStep" "I", Cond.fieldLink RX2 34 "TallyLogs$Partition" "leader" "I", Cond.instantiable RX4 7, Cond.initialized RX4, Cond.static yX5_leastOf, Cond.initialized RX5, Cond.code yX5_leastOf cX5_leastOf 2 (some .int), Cond.methodLink RX5 138 yX5_contains, Cond.static yX5_contains, Cond.code yX5_contains cX5_contains 2 (some .boolean), Cond.methodLink RX2 41 yX4_init, Cond.instanceMethod yX4_init, Cond.code yX4_init cX4_init 2 none, Cond.methodLink RX4 3 objectInit, Cond.classLink RX4 9 RX0, Cond.fieldLink RX4 11 "TallyLogs$Replica" "slots" "[LTallyLogs$Entry;"]
def wsX2_init_r2 : List Cond := [Cond.fieldLink RX4 17 "TallyLogs$Replica" "start" "I", Cond.fieldLink RX4 21 "TallyLogs$Replica" "end" "I", Cond.fieldLink RX4 24 "TallyLogs$Replica" "hw" "I", Cond.fieldLink RX4 27 "TallyLogs$Replica" "flushed" "I", Cond.fieldLink RX4 30 "TallyLogs$Replica" "known" "I", Cond.fieldLink RX4 33 "TallyLogs$Replica" "caught" "I"]
def wsX2_init : List Cond := .code yX2_init cX2_init 6 none :: ((wsX2_init_r1 ++ wsX2_init_r2) ++ wsX20 ++ wsX40)
def wsX2_replicaAt : List Cond := .code yX2_replicaAt cX2_replicaAt 2 (some (.object "TallyLogs$Replica")) :: ([.fieldLink RX2 11 "TallyLogs$Partition" "replicas" "[LTallyLogs$Replica;"] ++ wsX20)
def wsX2_leading : List Cond := .code yX2_leading cX2_leading 1 (some (.object "TallyLogs$Replica")) :: ([.fieldLink RX2 34 "TallyLogs$Partition" "leader" "I", .methodLink RX2 44 yX2_replicaAt, .instanceMethod yX2_replicaAt, .selects RX2 yX2_replicaAt yX2_replicaAt, .initialized RX2, .code yX2_replicaAt cX2_replicaAt 2 (some (.object "TallyLogs$Replica")), .fieldLink RX2 11 "TallyLogs$Partition" "replicas" "[LTallyLogs$Replica;"] ++ wsX20)
def wsX2_knownEnd : List Cond := .code yX2_knownEnd cX2_knownEnd 3 (some .int) :: ([.fieldLink RX2 34 "TallyLogs$Partition" "leader" "I", .fieldLink RX2 48 "TallyLogs$Replica" "end" "I", .fieldLink RX2 51 "TallyLogs$Replica" "known" "I", .methodLink RX2 44 yX2_replicaAt, .instanceMethod yX2_replicaAt, .selects RX2 yX2_replicaAt yX2_replicaAt, .initialized RX2, .code yX2_replicaAt cX2_replicaAt 2 (some (.object "TallyLogs$Replica")), .fieldLink RX2 11 "TallyLogs$Partition" "replicas" "[LTallyLogs$Replica;"] ++ wsX20 ++ wsX40)
def wsX2_raiseHw_r1 : List Cond := [Cond.fieldLink RX2 48 "TallyLogs$Replica" "end" "I", Cond.fieldLink RX2 27 "TallyLogs$Partition" "inStep" "I", Cond.methodLink RX2 61 Lib.Math.min.name, Cond.static Lib.Math.min.name, Cond.initialized "java/lang/Math", Cond.code Lib.Math.min.name Lib.Math.min.code 2 (some .int), Cond.fieldLink RX2 66 "TallyLogs$Replica" "hw" "I", Cond.methodLink RX2 69 Lib.Math.max.name, Cond.static Lib.Math.max.name, Cond.code Lib.Math.max.name Lib.Math.max.code 2 (some .int), Cond.methodLink RX2 54 yX2_leading, Cond.instanceMethod yX2_leading, Cond.selects RX2 yX2_leading yX2_leading, Cond.initialized RX2, Cond.code yX2_leading cX2_leading 1 (some (.object "TallyLogs$Replica")), Cond.fieldLink RX2 34 "TallyLogs$Partition" "leader" "I", Cond.methodLink RX2 44 yX2_replicaAt, Cond.instanceMethod yX2_replicaAt, Cond.selects RX2 yX2_replicaAt yX2_replicaAt, Cond.code yX2_replicaAt cX2_replicaAt 2 (some (.object "TallyLogs$Replica")), Cond.fieldLink RX2 11 "TallyLogs$Partition" "replicas" "[LTallyLogs$Replica;", Cond.static yX5_contains, Cond.initialized RX5, Cond.code yX5_contains cX5_contains 2 (some .boolean)]
def wsX2_raiseHw_r2 : List Cond := [Cond.methodLink RX2 58 yX2_knownEnd, Cond.instanceMethod yX2_knownEnd, Cond.selects RX2 yX2_knownEnd yX2_knownEnd, Cond.code yX2_knownEnd cX2_knownEnd 3 (some .int), Cond.fieldLink RX2 51 "TallyLogs$Replica" "known" "I"]
def wsX2_raiseHw : List Cond := .code yX2_raiseHw cX2_raiseHw 4 none :: ((wsX2_raiseHw_r1 ++ wsX2_raiseHw_r2) ++ wsX40 ++ wsX20)
def wsX2_putLeader_r1 : List Cond := [Cond.fieldLink RX2 34 "TallyLogs$Partition" "leader" "I", Cond.fieldLink RX2 17 "TallyLogs$Partition" "epoch" "I", Cond.fieldLink RX2 11 "TallyLogs$Partition" "replicas" "[LTallyLogs$Replica;", Cond.fieldLink RX2 72 "TallyLogs$Replica" "caught" "I", Cond.fieldLink RX2 51 "TallyLogs$Replica" "known" "I", Cond.methodLink RX2 75 yX2_raiseHw, Cond.instanceMethod yX2_raiseHw, Cond.selects RX2 yX2_raiseHw yX2_raiseHw, Cond.initialized RX2, Cond.code yX2_raiseHw cX2_raiseHw 4 none, Cond.fieldLink RX2 48 "TallyLogs$Replica" "end" "I", Cond.fieldLink RX2 27 "TallyLogs$Partition" "inStep" "I", Cond.methodLink RX2 61 Lib.Math.min.name, Cond.static Lib.Math.min.name, Cond.initialized "java/lang/Math", Cond.code Lib.Math.min.name Lib.Math.min.code 2 (some .int), Cond.fieldLink RX2 66 "TallyLogs$Replica" "hw" "I", Cond.methodLink RX2 69 Lib.Math.max.name, Cond.static Lib.Math.max.name, Cond.code Lib.Math.max.name Lib.Math.max.code 2 (some .int), Cond.methodLink RX2 54 yX2_leading, Cond.instanceMethod yX2_leading, Cond.selects RX2 yX2_leading yX2_leading, Cond.code yX2_leading cX2_leading 1 (some (.object "TallyLogs$Replica"))]
def wsX2_putLeader_r2 : List Cond := [Cond.methodLink RX2 44 yX2_replicaAt, Cond.instanceMethod yX2_replicaAt, Cond.selects RX2 yX2_replicaAt yX2_replicaAt, Cond.code yX2_replicaAt cX2_replicaAt 2 (some (.object "TallyLogs$Replica")), Cond.static yX5_contains, Cond.initialized RX5, Cond.code yX5_contains cX5_contains 2 (some .boolean), Cond.methodLink RX2 58 yX2_knownEnd, Cond.instanceMethod yX2_knownEnd, Cond.selects RX2 yX2_knownEnd yX2_knownEnd, Cond.code yX2_knownEnd cX2_knownEnd 3 (some .int)]
def wsX2_putLeader : List Cond := .code yX2_putLeader cX2_putLeader 5 none :: ((wsX2_putLeader_r1 ++ wsX2_putLeader_r2) ++ wsX20 ++ wsX40)
def wsX2_dropLate_r1 : List Cond := [Cond.fieldLink RX2 11 "TallyLogs$Partition" "replicas" "[LTallyLogs$Replica;", Cond.fieldLink RX2 34 "TallyLogs$Partition" "leader" "I", Cond.fieldLink RX2 27 "TallyLogs$Partition" "inStep" "I", Cond.fieldLink RX2 72 "TallyLogs$Replica" "caught" "I", Cond.methodLink RX2 54 yX2_leading, Cond.instanceMethod yX2_leading, Cond.selects RX2 yX2_leading yX2_leading, Cond.initialized RX2, Cond.code yX2_leading cX2_leading 1 (some (.object "TallyLogs$Replica")), Cond.methodLink RX2 44 yX2_replicaAt, Cond.instanceMethod yX2_replicaAt, Cond.selects RX2 yX2_replicaAt yX2_replicaAt, Cond.code yX2_replicaAt cX2_replicaAt 2 (some (.object "TallyLogs$Replica")), Cond.static yX5_contains, Cond.initialized RX5, Cond.code yX5_contains cX5_contains 2 (some .boolean), Cond.methodLink RX2 75 yX2_raiseHw, Cond.instanceMethod yX2_raiseHw, Cond.selects RX2 yX2_raiseHw yX2_raiseHw, Cond.code yX2_raiseHw cX2_raiseHw 4 none, Cond.fieldLink RX2 48 "TallyLogs$Replica" "end" "I", Cond.methodLink RX2 61 Lib.Math.min.name, Cond.static Lib.Math.min.name, Cond.initialized "java/lang/Math"]
def wsX2_dropLate_r2 : List Cond := [Cond.code Lib.Math.min.name Lib.Math.min.code 2 (some .int), Cond.fieldLink RX2 66 "TallyLogs$Replica" "hw" "I", Cond.methodLink RX2 69 Lib.Math.max.name, Cond.static Lib.Math.max.name, Cond.code Lib.Math.max.name Lib.Math.max.code 2 (some .int), Cond.methodLink RX2 58 yX2_knownEnd, Cond.instanceMethod yX2_knownEnd, Cond.selects RX2 yX2_knownEnd yX2_knownEnd, Cond.code yX2_knownEnd cX2_knownEnd 3 (some .int), Cond.fieldLink RX2 51 "TallyLogs$Replica" "known" "I"]
def wsX2_dropLate : List Cond := .code yX2_dropLate cX2_dropLate 5 (some .int) :: ((wsX2_dropLate_r1 ++ wsX2_dropLate_r2) ++ wsX20 ++ wsX40)
def wsX4_loseUnflushed : List Cond := .code yX4_loseUnflushed cX4_loseUnflushed 2 none :: ([.fieldLink RX4 27 "TallyLogs$Replica" "flushed" "I", .fieldLink RX4 21 "TallyLogs$Replica" "end" "I", .methodLink RX4 49 Lib.Math.min.name, .static Lib.Math.min.name, .initialized "java/lang/Math", .code Lib.Math.min.name Lib.Math.min.code 2 (some .int), .fieldLink RX4 24 "TallyLogs$Replica" "hw" "I"] ++ wsX40)
def wsX2_lose_r1 : List Cond := [Cond.fieldLink RX2 34 "TallyLogs$Partition" "leader" "I", Cond.fieldLink RX2 27 "TallyLogs$Partition" "inStep" "I", Cond.methodLink RX2 44 yX2_replicaAt, Cond.instanceMethod yX2_replicaAt, Cond.selects RX2 yX2_replicaAt yX2_replicaAt, Cond.initialized RX2, Cond.code yX2_replicaAt cX2_replicaAt 2 (some (.object "TallyLogs$Replica")), Cond.fieldLink RX2 11 "TallyLogs$Partition" "replicas" "[LTallyLogs$Replica;", Cond.methodLink RX2 78 yX4_loseUnflushed, Cond.instanceMethod yX4_loseUnflushed, Cond.selects RX4 yX4_loseUnflushed yX4_loseUnflushed, Cond.initialized RX4, Cond.code yX4_loseUnflushed cX4_loseUnflushed 2 none, Cond.fieldLink RX4 27 "TallyLogs$Replica" "flushed" "I", Cond.fieldLink RX4 21 "TallyLogs$Replica" "end" "I", Cond.methodLink RX4 49 Lib.Math.min.name, Cond.static Lib.Math.min.name, Cond.initialized "java/lang/Math", Cond.code Lib.Math.min.name Lib.Math.min.code 2 (some .int), Cond.fieldLink RX4 24 "TallyLogs$Replica" "hw" "I", Cond.methodLink RX2 75 yX2_raiseHw, Cond.instanceMethod yX2_raiseHw, Cond.selects RX2 yX2_raiseHw yX2_raiseHw, Cond.code yX2_raiseHw cX2_raiseHw 4 none]
def wsX2_lose_r2 : List Cond := [Cond.fieldLink RX2 48 "TallyLogs$Replica" "end" "I", Cond.methodLink RX2 61 Lib.Math.min.name, Cond.fieldLink RX2 66 "TallyLogs$Replica" "hw" "I", Cond.methodLink RX2 69 Lib.Math.max.name, Cond.static Lib.Math.max.name, Cond.code Lib.Math.max.name Lib.Math.max.code 2 (some .int), Cond.methodLink RX2 54 yX2_leading, Cond.instanceMethod yX2_leading, Cond.selects RX2 yX2_leading yX2_leading, Cond.code yX2_leading cX2_leading 1 (some (.object "TallyLogs$Replica")), Cond.static yX5_contains, Cond.initialized RX5, Cond.code yX5_contains cX5_contains 2 (some .boolean), Cond.methodLink RX2 58 yX2_knownEnd, Cond.instanceMethod yX2_knownEnd, Cond.selects RX2 yX2_knownEnd yX2_knownEnd, Cond.code yX2_knownEnd cX2_knownEnd 3 (some .int), Cond.fieldLink RX2 51 "TallyLogs$Replica" "known" "I"]
def wsX2_lose : List Cond := .code yX2_lose cX2_lose 5 none :: ((wsX2_lose_r1 ++ wsX2_lose_r2) ++ wsX20 ++ wsX40)
def wsX3_init : List Cond := .code yX3_init cX3_init 2 none :: ([.methodLink RX3 3 objectInit, .instanceMethod objectInit, .code objectInit ⟨#[0xb1]⟩ 1 none, .fieldLink RX3 9 "TallyLogs$Producer" "generation" "I", .fieldLink RX3 15 "TallyLogs$Producer" "mode" "I", .fieldLink RX3 18 "TallyLogs$Producer" "commits" "Z", .fieldLink RX3 22 "TallyLogs$Producer" "boundGeneration" "I", .fieldLink RX3 25 "TallyLogs$Producer" "left" "I", .fieldLink RX3 28 "TallyLogs$Producer" "number" "I"] ++ wsX30)
def wsX3_open : List Cond := .code yX3_open cX3_open 1 none :: ([.fieldLink RX3 15 "TallyLogs$Producer" "mode" "I", .fieldLink RX3 9 "TallyLogs$Producer" "generation" "I", .fieldLink RX3 22 "TallyLogs$Producer" "boundGeneration" "I", .fieldLink RX3 25 "TallyLogs$Producer" "left" "I"] ++ wsX30)
def wsX3_startEnding : List Cond := .code yX3_startEnding cX3_startEnding 2 none :: ([.fieldLink RX3 15 "TallyLogs$Producer" "mode" "I", .fieldLink RX3 18 "TallyLogs$Producer" "commits" "Z"] ++ wsX30)
def wsJ9_floorMod_7cf53 : List Cond := .code yJ9_floorMod_7cf53 cJ9_floorMod_7cf53 3 (some .int) :: ([])
def wsX4_entryAt : List Cond := .code yX4_entryAt cX4_entryAt 2 (some (.object "TallyLogs$Entry")) :: ([.fieldLink RX4 17 "TallyLogs$Replica" "start" "I", .fieldLink RX4 21 "TallyLogs$Replica" "end" "I", .fieldLink RX4 11 "TallyLogs$Replica" "slots" "[LTallyLogs$Entry;", .methodLink RX4 36 yJ9_floorMod_7cf53, .static yJ9_floorMod_7cf53, .initialized RJ9, .code yJ9_floorMod_7cf53 cJ9_floorMod_7cf53 3 (some .int)] ++ wsX40)
def wsX4_held : List Cond := .code yX4_held cX4_held 1 (some .int) :: ([.fieldLink RX4 21 "TallyLogs$Replica" "end" "I", .fieldLink RX4 17 "TallyLogs$Replica" "start" "I"] ++ wsX40)
def wsX4_isFull : List Cond := .code yX4_isFull cX4_isFull 1 (some .boolean) :: ([.methodLink RX4 42 yX4_held, .instanceMethod yX4_held, .selects RX4 yX4_held yX4_held, .initialized RX4, .code yX4_held cX4_held 1 (some .int), .fieldLink RX4 21 "TallyLogs$Replica" "end" "I", .fieldLink RX4 17 "TallyLogs$Replica" "start" "I"] ++ wsX40)
def wsX4_append : List Cond := .code yX4_append cX4_append 2 none :: ([.fieldLink RX4 11 "TallyLogs$Replica" "slots" "[LTallyLogs$Entry;", .fieldLink RX4 21 "TallyLogs$Replica" "end" "I", .methodLink RX4 36 yJ9_floorMod_7cf53, .static yJ9_floorMod_7cf53, .initialized RJ9, .code yJ9_floorMod_7cf53 cJ9_floorMod_7cf53 3 (some .int)] ++ wsX40)
def wsX4_dropBefore : List Cond := .code yX4_dropBefore cX4_dropBefore 2 none :: ([.fieldLink RX4 17 "TallyLogs$Replica" "start" "I", .methodLink RX4 46 Lib.Math.max.name, .static Lib.Math.max.name, .initialized "java/lang/Math", .code Lib.Math.max.name Lib.Math.max.code 2 (some .int), .fieldLink RX4 27 "TallyLogs$Replica" "flushed" "I"] ++ wsX40)
def wsX4_offsetOf : List Cond := .code yX4_offsetOf cX4_offsetOf 6 (some .int) :: ([.fieldLink RX4 17 "TallyLogs$Replica" "start" "I", .fieldLink RX4 21 "TallyLogs$Replica" "end" "I", .fieldLink RX4 60 "TallyLogs$Entry" "seq" "I", .methodLink RX4 52 yX4_entryAt, .instanceMethod yX4_entryAt, .selects RX4 yX4_entryAt yX4_entryAt, .initialized RX4, .code yX4_entryAt cX4_entryAt 2 (some (.object "TallyLogs$Entry")), .fieldLink RX4 11 "TallyLogs$Replica" "slots" "[LTallyLogs$Entry;", .methodLink RX4 36 yJ9_floorMod_7cf53, .static yJ9_floorMod_7cf53, .initialized RJ9, .code yJ9_floorMod_7cf53 cJ9_floorMod_7cf53 3 (some .int), .methodLink RX4 56 yX0_isDataBy, .instanceMethod yX0_isDataBy, .selects RX0 yX0_isDataBy yX0_isDataBy, .initialized RX0, .code yX0_isDataBy cX0_isDataBy 3 (some .boolean), .fieldLink RX0 15 "TallyLogs$Entry" "kind" "I", .fieldLink RX0 18 "TallyLogs$Entry" "producer" "I", .fieldLink RX0 21 "TallyLogs$Entry" "generation" "I"] ++ wsX40 ++ wsX00)
def wsX4_nextSeq : List Cond := .code yX4_nextSeq cX4_nextSeq 5 (some .int) :: ([.fieldLink RX4 21 "TallyLogs$Replica" "end" "I", .fieldLink RX4 17 "TallyLogs$Replica" "start" "I", .fieldLink RX4 60 "TallyLogs$Entry" "seq" "I", .methodLink RX4 52 yX4_entryAt, .instanceMethod yX4_entryAt, .selects RX4 yX4_entryAt yX4_entryAt, .initialized RX4, .code yX4_entryAt cX4_entryAt 2 (some (.object "TallyLogs$Entry")), .fieldLink RX4 11 "TallyLogs$Replica" "slots" "[LTallyLogs$Entry;", .methodLink RX4 36 yJ9_floorMod_7cf53, .static yJ9_floorMod_7cf53, .initialized RJ9, .code yJ9_floorMod_7cf53 cJ9_floorMod_7cf53 3 (some .int), .methodLink RX4 56 yX0_isDataBy, .instanceMethod yX0_isDataBy, .selects RX0 yX0_isDataBy yX0_isDataBy, .initialized RX0, .code yX0_isDataBy cX0_isDataBy 3 (some .boolean), .fieldLink RX0 15 "TallyLogs$Entry" "kind" "I", .fieldLink RX0 18 "TallyLogs$Entry" "producer" "I", .fieldLink RX0 21 "TallyLogs$Entry" "generation" "I"] ++ wsX40 ++ wsX00)
def wsX4_hasSameEpoch : List Cond := .code yX4_hasSameEpoch cX4_hasSameEpoch 5 (some .boolean) :: ([.fieldLink RX4 67 "TallyLogs$Entry" "epoch" "I", .methodLink RX4 52 yX4_entryAt, .instanceMethod yX4_entryAt, .selects RX4 yX4_entryAt yX4_entryAt, .initialized RX4, .code yX4_entryAt cX4_entryAt 2 (some (.object "TallyLogs$Entry")), .fieldLink RX4 17 "TallyLogs$Replica" "start" "I", .fieldLink RX4 21 "TallyLogs$Replica" "end" "I", .fieldLink RX4 11 "TallyLogs$Replica" "slots" "[LTallyLogs$Entry;", .methodLink RX4 36 yJ9_floorMod_7cf53, .static yJ9_floorMod_7cf53, .initialized RJ9, .code yJ9_floorMod_7cf53 cJ9_floorMod_7cf53 3 (some .int)] ++ wsX00 ++ wsX40)
def wsX4_agreeWith_r1 : List Cond := [Cond.fieldLink RX4 21 "TallyLogs$Replica" "end" "I", Cond.fieldLink RX4 17 "TallyLogs$Replica" "start" "I", Cond.methodLink RX4 46 Lib.Math.max.name, Cond.static Lib.Math.max.name, Cond.initialized "java/lang/Math", Cond.code Lib.Math.max.name Lib.Math.max.code 2 (some .int), Cond.fieldLink RX4 27 "TallyLogs$Replica" "flushed" "I", Cond.methodLink RX4 49 Lib.Math.min.name, Cond.static Lib.Math.min.name, Cond.code Lib.Math.min.name Lib.Math.min.code 2 (some .int), Cond.methodLink RX4 63 yX4_hasSameEpoch, Cond.instanceMethod yX4_hasSameEpoch, Cond.selects RX4 yX4_hasSameEpoch yX4_hasSameEpoch, Cond.initialized RX4, Cond.code yX4_hasSameEpoch cX4_hasSameEpoch 5 (some .boolean), Cond.fieldLink RX4 67 "TallyLogs$Entry" "epoch" "I", Cond.methodLink RX4 52 yX4_entryAt, Cond.instanceMethod yX4_entryAt, Cond.selects RX4 yX4_entryAt yX4_entryAt, Cond.code yX4_entryAt cX4_entryAt 2 (some (.object "TallyLogs$Entry")), Cond.fieldLink RX4 11 "TallyLogs$Replica" "slots" "[LTallyLogs$Entry;", Cond.methodLink RX4 36 yJ9_floorMod_7cf53, Cond.static yJ9_floorMod_7cf53, Cond.initialized RJ9]
def wsX4_agreeWith_r2 : List Cond := [Cond.code yJ9_floorMod_7cf53 cJ9_floorMod_7cf53 3 (some .int)]
def wsX4_agreeWith : List Cond := .code yX4_agreeWith cX4_agreeWith 3 none :: ((wsX4_agreeWith_r1 ++ wsX4_agreeWith_r2) ++ wsX40 ++ wsX00)
def wsX4_fetchFrom_r1 : List Cond := [Cond.fieldLink RX4 17 "TallyLogs$Replica" "start" "I", Cond.fieldLink RX4 21 "TallyLogs$Replica" "end" "I", Cond.fieldLink RX4 24 "TallyLogs$Replica" "hw" "I", Cond.methodLink RX4 49 Lib.Math.min.name, Cond.static Lib.Math.min.name, Cond.initialized "java/lang/Math", Cond.code Lib.Math.min.name Lib.Math.min.code 2 (some .int), Cond.methodLink RX4 70 yX4_dropBefore, Cond.instanceMethod yX4_dropBefore, Cond.selects RX4 yX4_dropBefore yX4_dropBefore, Cond.initialized RX4, Cond.code yX4_dropBefore cX4_dropBefore 2 none, Cond.methodLink RX4 46 Lib.Math.max.name, Cond.static Lib.Math.max.name, Cond.code Lib.Math.max.name Lib.Math.max.code 2 (some .int), Cond.fieldLink RX4 27 "TallyLogs$Replica" "flushed" "I", Cond.methodLink RX4 52 yX4_entryAt, Cond.instanceMethod yX4_entryAt, Cond.selects RX4 yX4_entryAt yX4_entryAt, Cond.code yX4_entryAt cX4_entryAt 2 (some (.object "TallyLogs$Entry")), Cond.fieldLink RX4 11 "TallyLogs$Replica" "slots" "[LTallyLogs$Entry;", Cond.methodLink RX4 36 yJ9_floorMod_7cf53, Cond.static yJ9_floorMod_7cf53, Cond.initialized RJ9]
def wsX4_fetchFrom_r2 : List Cond := [Cond.code yJ9_floorMod_7cf53 cJ9_floorMod_7cf53 3 (some .int), Cond.methodLink RX4 74 yX4_append, Cond.instanceMethod yX4_append, Cond.selects RX4 yX4_append yX4_append, Cond.code yX4_append cX4_append 2 none]
def wsX4_fetchFrom : List Cond := .code yX4_fetchFrom cX4_fetchFrom 3 (some .int) :: ((wsX4_fetchFrom_r1 ++ wsX4_fetchFrom_r2) ++ wsX40)
def wsX4_endKindOf : List Cond := .code yX4_endKindOf cX4_endKindOf 5 (some .int) :: ([.fieldLink RX4 21 "TallyLogs$Replica" "end" "I", .fieldLink RX4 82 "TallyLogs$Entry" "kind" "I", .methodLink RX4 52 yX4_entryAt, .instanceMethod yX4_entryAt, .selects RX4 yX4_entryAt yX4_entryAt, .initialized RX4, .code yX4_entryAt cX4_entryAt 2 (some (.object "TallyLogs$Entry")), .fieldLink RX4 17 "TallyLogs$Replica" "start" "I", .fieldLink RX4 11 "TallyLogs$Replica" "slots" "[LTallyLogs$Entry;", .methodLink RX4 36 yJ9_floorMod_7cf53, .static yJ9_floorMod_7cf53, .initialized RJ9, .code yJ9_floorMod_7cf53 cJ9_floorMod_7cf53 3 (some .int), .methodLink RX4 78 yX0_isEndOf, .instanceMethod yX0_isEndOf, .selects RX0 yX0_isEndOf yX0_isEndOf, .initialized RX0, .code yX0_isEndOf cX0_isEndOf 2 (some .boolean), .fieldLink RX0 15 "TallyLogs$Entry" "kind" "I", .fieldLink RX0 18 "TallyLogs$Entry" "producer" "I", .fieldLink RX0 21 "TallyLogs$Entry" "generation" "I"] ++ wsX40 ++ wsX00)
def wsX4_firstOpen_r1 : List Cond := [Cond.fieldLink RX4 17 "TallyLogs$Replica" "start" "I", Cond.fieldLink RX4 21 "TallyLogs$Replica" "end" "I", Cond.fieldLink RX4 85 "TallyLogs$Entry" "bound" "Z", Cond.methodLink RX4 52 yX4_entryAt, Cond.instanceMethod yX4_entryAt, Cond.selects RX4 yX4_entryAt yX4_entryAt, Cond.initialized RX4, Cond.code yX4_entryAt cX4_entryAt 2 (some (.object "TallyLogs$Entry")), Cond.fieldLink RX4 11 "TallyLogs$Replica" "slots" "[LTallyLogs$Entry;", Cond.methodLink RX4 36 yJ9_floorMod_7cf53, Cond.static yJ9_floorMod_7cf53, Cond.initialized RJ9, Cond.code yJ9_floorMod_7cf53 cJ9_floorMod_7cf53 3 (some .int), Cond.methodLink RX4 89 yX4_endKindOf, Cond.instanceMethod yX4_endKindOf, Cond.selects RX4 yX4_endKindOf yX4_endKindOf, Cond.code yX4_endKindOf cX4_endKindOf 5 (some .int), Cond.fieldLink RX4 82 "TallyLogs$Entry" "kind" "I", Cond.methodLink RX4 78 yX0_isEndOf, Cond.instanceMethod yX0_isEndOf, Cond.selects RX0 yX0_isEndOf yX0_isEndOf, Cond.initialized RX0, Cond.code yX0_isEndOf cX0_isEndOf 2 (some .boolean), Cond.fieldLink RX0 15 "TallyLogs$Entry" "kind" "I"]
def wsX4_firstOpen_r2 : List Cond := [Cond.fieldLink RX0 18 "TallyLogs$Entry" "producer" "I", Cond.fieldLink RX0 21 "TallyLogs$Entry" "generation" "I"]
def wsX4_firstOpen : List Cond := .code yX4_firstOpen cX4_firstOpen 3 (some .int) :: ((wsX4_firstOpen_r1 ++ wsX4_firstOpen_r2) ++ wsX40 ++ wsX00)
def wsX4_isAborted_r1 : List Cond := [Cond.fieldLink RX4 85 "TallyLogs$Entry" "bound" "Z", Cond.methodLink RX4 89 yX4_endKindOf, Cond.instanceMethod yX4_endKindOf, Cond.selects RX4 yX4_endKindOf yX4_endKindOf, Cond.initialized RX4, Cond.code yX4_endKindOf cX4_endKindOf 5 (some .int), Cond.fieldLink RX4 21 "TallyLogs$Replica" "end" "I", Cond.fieldLink RX4 82 "TallyLogs$Entry" "kind" "I", Cond.methodLink RX4 52 yX4_entryAt, Cond.instanceMethod yX4_entryAt, Cond.selects RX4 yX4_entryAt yX4_entryAt, Cond.code yX4_entryAt cX4_entryAt 2 (some (.object "TallyLogs$Entry")), Cond.fieldLink RX4 17 "TallyLogs$Replica" "start" "I", Cond.fieldLink RX4 11 "TallyLogs$Replica" "slots" "[LTallyLogs$Entry;", Cond.methodLink RX4 36 yJ9_floorMod_7cf53, Cond.static yJ9_floorMod_7cf53, Cond.initialized RJ9, Cond.code yJ9_floorMod_7cf53 cJ9_floorMod_7cf53 3 (some .int), Cond.methodLink RX4 78 yX0_isEndOf, Cond.instanceMethod yX0_isEndOf, Cond.selects RX0 yX0_isEndOf yX0_isEndOf, Cond.initialized RX0, Cond.code yX0_isEndOf cX0_isEndOf 2 (some .boolean), Cond.fieldLink RX0 15 "TallyLogs$Entry" "kind" "I"]
def wsX4_isAborted_r2 : List Cond := [Cond.fieldLink RX0 18 "TallyLogs$Entry" "producer" "I", Cond.fieldLink RX0 21 "TallyLogs$Entry" "generation" "I"]
def wsX4_isAborted : List Cond := .code yX4_isAborted cX4_isAborted 3 (some .boolean) :: ((wsX4_isAborted_r1 ++ wsX4_isAborted_r2) ++ wsX00 ++ wsX40)
def wsX4_firstVisible_r1 : List Cond := [Cond.fieldLink RX4 24 "TallyLogs$Replica" "hw" "I", Cond.methodLink RX4 49 Lib.Math.min.name, Cond.static Lib.Math.min.name, Cond.initialized "java/lang/Math", Cond.code Lib.Math.min.name Lib.Math.min.code 2 (some .int), Cond.fieldLink RX4 82 "TallyLogs$Entry" "kind" "I", Cond.methodLink RX4 93 yX4_firstOpen, Cond.instanceMethod yX4_firstOpen, Cond.selects RX4 yX4_firstOpen yX4_firstOpen, Cond.initialized RX4, Cond.code yX4_firstOpen cX4_firstOpen 3 (some .int), Cond.fieldLink RX4 17 "TallyLogs$Replica" "start" "I", Cond.fieldLink RX4 21 "TallyLogs$Replica" "end" "I", Cond.fieldLink RX4 85 "TallyLogs$Entry" "bound" "Z", Cond.methodLink RX4 52 yX4_entryAt, Cond.instanceMethod yX4_entryAt, Cond.selects RX4 yX4_entryAt yX4_entryAt, Cond.code yX4_entryAt cX4_entryAt 2 (some (.object "TallyLogs$Entry")), Cond.fieldLink RX4 11 "TallyLogs$Replica" "slots" "[LTallyLogs$Entry;", Cond.methodLink RX4 36 yJ9_floorMod_7cf53, Cond.static yJ9_floorMod_7cf53, Cond.initialized RJ9, Cond.code yJ9_floorMod_7cf53 cJ9_floorMod_7cf53 3 (some .int), Cond.methodLink RX4 89 yX4_endKindOf]
def wsX4_firstVisible_r2 : List Cond := [Cond.instanceMethod yX4_endKindOf, Cond.selects RX4 yX4_endKindOf yX4_endKindOf, Cond.code yX4_endKindOf cX4_endKindOf 5 (some .int), Cond.methodLink RX4 78 yX0_isEndOf, Cond.instanceMethod yX0_isEndOf, Cond.selects RX0 yX0_isEndOf yX0_isEndOf, Cond.initialized RX0, Cond.code yX0_isEndOf cX0_isEndOf 2 (some .boolean), Cond.fieldLink RX0 15 "TallyLogs$Entry" "kind" "I", Cond.fieldLink RX0 18 "TallyLogs$Entry" "producer" "I", Cond.fieldLink RX0 21 "TallyLogs$Entry" "generation" "I", Cond.methodLink RX4 96 yX4_isAborted, Cond.instanceMethod yX4_isAborted, Cond.selects RX4 yX4_isAborted yX4_isAborted, Cond.code yX4_isAborted cX4_isAborted 3 (some .boolean)]
def wsX4_firstVisible : List Cond := .code yX4_firstVisible cX4_firstVisible 6 (some .int) :: ((wsX4_firstVisible_r1 ++ wsX4_firstVisible_r2) ++ wsX40 ++ wsX00)
def wsX5_init_r1 : List Cond := [Cond.methodLink RX5 1 objectInit, Cond.instanceMethod objectInit, Cond.code objectInit ⟨#[0xb1]⟩ 1 none, Cond.classLink RX5 9 RX2, Cond.fieldLink RX5 11 "TallyLogs" "partitions" "[LTallyLogs$Partition;", Cond.classLink RX5 15 RX3, Cond.fieldLink RX5 17 "TallyLogs" "producers" "[LTallyLogs$Producer;", Cond.classLink RX5 21 RX1, Cond.fieldLink RX5 23 "TallyLogs" "groups" "[LTallyLogs$Group;", Cond.fieldLink RX5 27 "TallyLogs" "up" "I", Cond.fieldLink RX5 31 "TallyLogs" "now" "I", Cond.fieldLink RX5 34 "TallyLogs" "lastSeen" "LTallyLogs$Entry;", Cond.instantiable RX3 6, Cond.initialized RX3, Cond.instantiable RX1 3, Cond.initialized RX1, Cond.methodLink RX5 38 yX3_init, Cond.instanceMethod yX3_init, Cond.code yX3_init cX3_init 2 none, Cond.methodLink RX3 3 objectInit, Cond.fieldLink RX3 9 "TallyLogs$Producer" "generation" "I", Cond.fieldLink RX3 15 "TallyLogs$Producer" "mode" "I", Cond.fieldLink RX3 18 "TallyLogs$Producer" "commits" "Z", Cond.fieldLink RX3 22 "TallyLogs$Producer" "boundGeneration" "I"]
def wsX5_init_r2 : List Cond := [Cond.fieldLink RX3 25 "TallyLogs$Producer" "left" "I", Cond.fieldLink RX3 28 "TallyLogs$Producer" "number" "I", Cond.instanceMethod yX1_init, Cond.code yX1_init cX1_init 1 none, Cond.methodLink RX1 3 objectInit, Cond.fieldLink RX1 9 "TallyLogs$Group" "members" "I", Cond.fieldLink RX1 15 "TallyLogs$Group" "round" "I", Cond.arrayClass .int, Cond.fieldLink RX1 18 "TallyLogs$Group" "offsets" "[I"]
def wsX5_init : List Cond := .code yX5_init cX5_init 2 none :: ((wsX5_init_r1 ++ wsX5_init_r2) ++ wsX50 ++ wsX30 ++ wsX10)
def wsX5_create_r1 : List Cond := [Cond.fieldLink RX5 11 "TallyLogs" "partitions" "[LTallyLogs$Partition;", Cond.fieldLink RX5 27 "TallyLogs" "up" "I", Cond.classLink RX5 9 RX2, Cond.instantiable RX2 6, Cond.initialized RX2, Cond.fieldLink RX5 31 "TallyLogs" "now" "I", Cond.fieldLink RX5 51 "TallyLogs$Partition" "leader" "I", Cond.methodLink RX5 42 yJ6_bitCount_0f7a4, Cond.static yJ6_bitCount_0f7a4, Cond.initialized RJ6, Cond.code yJ6_bitCount_0f7a4 cJ6_bitCount_0f7a4 1 (some .int), Cond.constant RJ6 265 (1431655765), Cond.constant RJ6 266 (858993459), Cond.constant RJ6 267 (252645135), Cond.methodLink RX5 48 yX2_init, Cond.instanceMethod yX2_init, Cond.code yX2_init cX2_init 6 none, Cond.methodLink RX2 3 objectInit, Cond.instanceMethod objectInit, Cond.code objectInit ⟨#[0xb1]⟩ 1 none, Cond.classLink RX2 9 RX4, Cond.fieldLink RX2 11 "TallyLogs$Partition" "replicas" "[LTallyLogs$Replica;", Cond.fieldLink RX2 17 "TallyLogs$Partition" "epoch" "I", Cond.fieldLink RX2 21 "TallyLogs$Partition" "mask" "I"]
def wsX5_create_r2 : List Cond := [Cond.fieldLink RX2 24 "TallyLogs$Partition" "min" "I", Cond.fieldLink RX2 27 "TallyLogs$Partition" "inStep" "I", Cond.fieldLink RX2 34 "TallyLogs$Partition" "leader" "I", Cond.instantiable RX4 7, Cond.initialized RX4, Cond.static yX5_leastOf, Cond.initialized RX5, Cond.code yX5_leastOf cX5_leastOf 2 (some .int), Cond.methodLink RX5 138 yX5_contains, Cond.static yX5_contains, Cond.code yX5_contains cX5_contains 2 (some .boolean), Cond.methodLink RX2 41 yX4_init, Cond.instanceMethod yX4_init, Cond.code yX4_init cX4_init 2 none, Cond.methodLink RX4 3 objectInit, Cond.classLink RX4 9 RX0, Cond.fieldLink RX4 11 "TallyLogs$Replica" "slots" "[LTallyLogs$Entry;", Cond.fieldLink RX4 17 "TallyLogs$Replica" "start" "I", Cond.fieldLink RX4 21 "TallyLogs$Replica" "end" "I", Cond.fieldLink RX4 24 "TallyLogs$Replica" "hw" "I", Cond.fieldLink RX4 27 "TallyLogs$Replica" "flushed" "I", Cond.fieldLink RX4 30 "TallyLogs$Replica" "known" "I", Cond.fieldLink RX4 33 "TallyLogs$Replica" "caught" "I"]
def wsX5_create : List Cond := .code yX5_create cX5_create 6 (some .int) :: ((wsX5_create_r1 ++ wsX5_create_r2) ++ wsX50 ++ wsX20 ++ wsX40)
def wsX5_partitionAt : List Cond := .code yX5_partitionAt cX5_partitionAt 2 (some (.object "TallyLogs$Partition")) :: ([.fieldLink RX5 11 "TallyLogs" "partitions" "[LTallyLogs$Partition;"] ++ wsX50)
def wsX5_elect_r1 : List Cond := [Cond.fieldLink RX5 58 "TallyLogs$Partition" "inStep" "I", Cond.fieldLink RX5 27 "TallyLogs" "up" "I", Cond.fieldLink RX5 64 "TallyLogs$Partition" "mask" "I", Cond.fieldLink RX5 31 "TallyLogs" "now" "I", Cond.methodLink RX5 54 yX5_partitionAt, Cond.instanceMethod yX5_partitionAt, Cond.selects RX5 yX5_partitionAt yX5_partitionAt, Cond.initialized RX5, Cond.code yX5_partitionAt cX5_partitionAt 2 (some (.object "TallyLogs$Partition")), Cond.fieldLink RX5 11 "TallyLogs" "partitions" "[LTallyLogs$Partition;", Cond.methodLink RX5 61 yX5_leastOf, Cond.static yX5_leastOf, Cond.code yX5_leastOf cX5_leastOf 2 (some .int), Cond.methodLink RX5 138 yX5_contains, Cond.static yX5_contains, Cond.code yX5_contains cX5_contains 2 (some .boolean), Cond.methodLink RX5 67 yX2_putLeader, Cond.instanceMethod yX2_putLeader, Cond.selects RX2 yX2_putLeader yX2_putLeader, Cond.initialized RX2, Cond.code yX2_putLeader cX2_putLeader 5 none, Cond.fieldLink RX2 34 "TallyLogs$Partition" "leader" "I", Cond.fieldLink RX2 17 "TallyLogs$Partition" "epoch" "I", Cond.fieldLink RX2 11 "TallyLogs$Partition" "replicas" "[LTallyLogs$Replica;"]
def wsX5_elect_r2 : List Cond := [Cond.fieldLink RX2 72 "TallyLogs$Replica" "caught" "I", Cond.fieldLink RX2 51 "TallyLogs$Replica" "known" "I", Cond.methodLink RX2 75 yX2_raiseHw, Cond.instanceMethod yX2_raiseHw, Cond.selects RX2 yX2_raiseHw yX2_raiseHw, Cond.code yX2_raiseHw cX2_raiseHw 4 none, Cond.fieldLink RX2 48 "TallyLogs$Replica" "end" "I", Cond.fieldLink RX2 27 "TallyLogs$Partition" "inStep" "I", Cond.methodLink RX2 61 Lib.Math.min.name, Cond.static Lib.Math.min.name, Cond.initialized "java/lang/Math", Cond.code Lib.Math.min.name Lib.Math.min.code 2 (some .int), Cond.fieldLink RX2 66 "TallyLogs$Replica" "hw" "I", Cond.methodLink RX2 69 Lib.Math.max.name, Cond.static Lib.Math.max.name, Cond.code Lib.Math.max.name Lib.Math.max.code 2 (some .int), Cond.methodLink RX2 54 yX2_leading, Cond.instanceMethod yX2_leading, Cond.selects RX2 yX2_leading yX2_leading, Cond.code yX2_leading cX2_leading 1 (some (.object "TallyLogs$Replica")), Cond.methodLink RX2 44 yX2_replicaAt, Cond.instanceMethod yX2_replicaAt, Cond.selects RX2 yX2_replicaAt yX2_replicaAt, Cond.code yX2_replicaAt cX2_replicaAt 2 (some (.object "TallyLogs$Replica"))]
def wsX5_elect_r3 : List Cond := [Cond.methodLink RX2 58 yX2_knownEnd, Cond.instanceMethod yX2_knownEnd, Cond.selects RX2 yX2_knownEnd yX2_knownEnd, Cond.code yX2_knownEnd cX2_knownEnd 3 (some .int)]
def wsX5_elect : List Cond := .code yX5_elect cX5_elect 5 (some .int) :: ((wsX5_elect_r1 ++ (wsX5_elect_r2 ++ wsX5_elect_r3)) ++ wsX20 ++ wsX50 ++ wsX40)
def wsX5_producerAt : List Cond := .code yX5_producerAt cX5_producerAt 2 (some (.object "TallyLogs$Producer")) :: ([.fieldLink RX5 17 "TallyLogs" "producers" "[LTallyLogs$Producer;"] ++ wsX50)
def wsX5_register : List Cond := .code yX5_register cX5_register 3 (some .int) :: ([.fieldLink RX5 75 "TallyLogs$Producer" "generation" "I", .fieldLink RX5 78 "TallyLogs$Producer" "mode" "I", .methodLink RX5 71 yX5_producerAt, .instanceMethod yX5_producerAt, .selects RX5 yX5_producerAt yX5_producerAt, .initialized RX5, .code yX5_producerAt cX5_producerAt 2 (some (.object "TallyLogs$Producer")), .fieldLink RX5 17 "TallyLogs" "producers" "[LTallyLogs$Producer;", .methodLink RX5 81 yX3_startEnding, .instanceMethod yX3_startEnding, .selects RX3 yX3_startEnding yX3_startEnding, .initialized RX3, .code yX3_startEnding cX3_startEnding 2 none, .fieldLink RX3 15 "TallyLogs$Producer" "mode" "I", .fieldLink RX3 18 "TallyLogs$Producer" "commits" "Z"] ++ wsX30 ++ wsX50)
def wsX5_producerOf : List Cond := .code yX5_producerOf cX5_producerOf 2 (some (.object "TallyLogs$Producer")) :: ([.methodLink RX5 71 yX5_producerAt, .instanceMethod yX5_producerAt, .selects RX5 yX5_producerAt yX5_producerAt, .initialized RX5, .code yX5_producerAt cX5_producerAt 2 (some (.object "TallyLogs$Producer")), .fieldLink RX5 17 "TallyLogs" "producers" "[LTallyLogs$Producer;"] ++ wsX50)
def wsX5_generationOf : List Cond := .code yX5_generationOf cX5_generationOf 1 (some .int) :: ([])
def wsX5_newData : List Cond := .code yX5_newData cX5_newData 5 (some (.object "TallyLogs$Entry")) :: ([.classLink RX5 179 RX0, .instantiable RX0 8, .initialized RX0, .fieldLink RX5 98 "TallyLogs$Producer" "number" "I", .fieldLink RX5 75 "TallyLogs$Producer" "generation" "I", .fieldLink RX5 78 "TallyLogs$Producer" "mode" "I", .methodLink RX5 251 yX0_init, .instanceMethod yX0_init, .code yX0_init cX0_init 8 none, .methodLink RX0 3 objectInit, .instanceMethod objectInit, .code objectInit ⟨#[0xb1]⟩ 1 none, .fieldLink RX0 9 "TallyLogs$Entry" "epoch" "I", .fieldLink RX0 15 "TallyLogs$Entry" "kind" "I", .fieldLink RX0 18 "TallyLogs$Entry" "producer" "I", .fieldLink RX0 21 "TallyLogs$Entry" "generation" "I", .fieldLink RX0 24 "TallyLogs$Entry" "seq" "I", .fieldLink RX0 27 "TallyLogs$Entry" "key" "I", .fieldLink RX0 30 "TallyLogs$Entry" "value" "I", .fieldLink RX0 33 "TallyLogs$Entry" "bound" "Z"] ++ wsX00 ++ wsX30)
def wsX5_produce_r1 : List Cond := [Cond.fieldLink RX5 75 "TallyLogs$Producer" "generation" "I", Cond.fieldLink RX5 78 "TallyLogs$Producer" "mode" "I", Cond.fieldLink RX5 58 "TallyLogs$Partition" "inStep" "I", Cond.fieldLink RX5 95 "TallyLogs$Partition" "min" "I", Cond.fieldLink RX5 98 "TallyLogs$Producer" "number" "I", Cond.fieldLink RX5 115 "TallyLogs$Partition" "epoch" "I", Cond.fieldLink RX5 126 "TallyLogs$Producer" "left" "I", Cond.fieldLink RX5 132 "TallyLogs$Replica" "end" "I", Cond.methodLink RX5 54 yX5_partitionAt, Cond.instanceMethod yX5_partitionAt, Cond.selects RX5 yX5_partitionAt yX5_partitionAt, Cond.initialized RX5, Cond.code yX5_partitionAt cX5_partitionAt 2 (some (.object "TallyLogs$Partition")), Cond.fieldLink RX5 11 "TallyLogs" "partitions" "[LTallyLogs$Partition;", Cond.methodLink RX5 85 yX5_producerOf, Cond.instanceMethod yX5_producerOf, Cond.selects RX5 yX5_producerOf yX5_producerOf, Cond.code yX5_producerOf cX5_producerOf 2 (some (.object "TallyLogs$Producer")), Cond.methodLink RX5 71 yX5_producerAt, Cond.instanceMethod yX5_producerAt, Cond.selects RX5 yX5_producerAt yX5_producerAt, Cond.code yX5_producerAt cX5_producerAt 2 (some (.object "TallyLogs$Producer")), Cond.fieldLink RX5 17 "TallyLogs" "producers" "[LTallyLogs$Producer;", Cond.methodLink RX5 88 yX2_leading]
def wsX5_produce_r2 : List Cond := [Cond.instanceMethod yX2_leading, Cond.selects RX2 yX2_leading yX2_leading, Cond.initialized RX2, Cond.code yX2_leading cX2_leading 1 (some (.object "TallyLogs$Replica")), Cond.fieldLink RX2 34 "TallyLogs$Partition" "leader" "I", Cond.methodLink RX2 44 yX2_replicaAt, Cond.instanceMethod yX2_replicaAt, Cond.selects RX2 yX2_replicaAt yX2_replicaAt, Cond.code yX2_replicaAt cX2_replicaAt 2 (some (.object "TallyLogs$Replica")), Cond.fieldLink RX2 11 "TallyLogs$Partition" "replicas" "[LTallyLogs$Replica;", Cond.methodLink RX5 92 yX5_generationOf, Cond.static yX5_generationOf, Cond.code yX5_generationOf cX5_generationOf 1 (some .int), Cond.methodLink RX5 42 yJ6_bitCount_0f7a4, Cond.static yJ6_bitCount_0f7a4, Cond.initialized RJ6, Cond.code yJ6_bitCount_0f7a4 cJ6_bitCount_0f7a4 1 (some .int), Cond.constant RJ6 265 (1431655765), Cond.constant RJ6 266 (858993459), Cond.constant RJ6 267 (252645135), Cond.methodLink RX5 101 yX4_offsetOf, Cond.instanceMethod yX4_offsetOf, Cond.selects RX4 yX4_offsetOf yX4_offsetOf, Cond.initialized RX4]
def wsX5_produce_r3 : List Cond := [Cond.code yX4_offsetOf cX4_offsetOf 6 (some .int), Cond.fieldLink RX4 17 "TallyLogs$Replica" "start" "I", Cond.fieldLink RX4 21 "TallyLogs$Replica" "end" "I", Cond.fieldLink RX4 60 "TallyLogs$Entry" "seq" "I", Cond.methodLink RX4 52 yX4_entryAt, Cond.instanceMethod yX4_entryAt, Cond.selects RX4 yX4_entryAt yX4_entryAt, Cond.code yX4_entryAt cX4_entryAt 2 (some (.object "TallyLogs$Entry")), Cond.fieldLink RX4 11 "TallyLogs$Replica" "slots" "[LTallyLogs$Entry;", Cond.methodLink RX4 36 yJ9_floorMod_7cf53, Cond.static yJ9_floorMod_7cf53, Cond.initialized RJ9, Cond.code yJ9_floorMod_7cf53 cJ9_floorMod_7cf53 3 (some .int), Cond.methodLink RX4 56 yX0_isDataBy, Cond.instanceMethod yX0_isDataBy, Cond.selects RX0 yX0_isDataBy yX0_isDataBy, Cond.initialized RX0, Cond.code yX0_isDataBy cX0_isDataBy 3 (some .boolean), Cond.fieldLink RX0 15 "TallyLogs$Entry" "kind" "I", Cond.fieldLink RX0 18 "TallyLogs$Entry" "producer" "I", Cond.fieldLink RX0 21 "TallyLogs$Entry" "generation" "I", Cond.methodLink RX5 107 yX4_nextSeq, Cond.instanceMethod yX4_nextSeq, Cond.selects RX4 yX4_nextSeq yX4_nextSeq]
def wsX5_produce_r4 : List Cond := [Cond.code yX4_nextSeq cX4_nextSeq 5 (some .int), Cond.methodLink RX5 111 yX4_isFull, Cond.instanceMethod yX4_isFull, Cond.selects RX4 yX4_isFull yX4_isFull, Cond.code yX4_isFull cX4_isFull 1 (some .boolean), Cond.methodLink RX4 42 yX4_held, Cond.instanceMethod yX4_held, Cond.selects RX4 yX4_held yX4_held, Cond.code yX4_held cX4_held 1 (some .int), Cond.methodLink RX5 118 yX5_newData, Cond.static yX5_newData, Cond.code yX5_newData cX5_newData 5 (some (.object "TallyLogs$Entry")), Cond.classLink RX5 179 RX0, Cond.instantiable RX0 8, Cond.methodLink RX5 251 yX0_init, Cond.instanceMethod yX0_init, Cond.code yX0_init cX0_init 8 none, Cond.methodLink RX0 3 objectInit, Cond.instanceMethod objectInit, Cond.code objectInit ⟨#[0xb1]⟩ 1 none, Cond.fieldLink RX0 9 "TallyLogs$Entry" "epoch" "I", Cond.fieldLink RX0 24 "TallyLogs$Entry" "seq" "I", Cond.fieldLink RX0 27 "TallyLogs$Entry" "key" "I", Cond.fieldLink RX0 30 "TallyLogs$Entry" "value" "I"]
def wsX5_produce_r5 : List Cond := [Cond.fieldLink RX0 33 "TallyLogs$Entry" "bound" "Z", Cond.methodLink RX5 122 yX4_append, Cond.instanceMethod yX4_append, Cond.selects RX4 yX4_append yX4_append, Cond.code yX4_append cX4_append 2 none, Cond.methodLink RX5 129 yX2_raiseHw, Cond.instanceMethod yX2_raiseHw, Cond.selects RX2 yX2_raiseHw yX2_raiseHw, Cond.code yX2_raiseHw cX2_raiseHw 4 none, Cond.fieldLink RX2 48 "TallyLogs$Replica" "end" "I", Cond.fieldLink RX2 27 "TallyLogs$Partition" "inStep" "I", Cond.methodLink RX2 61 Lib.Math.min.name, Cond.static Lib.Math.min.name, Cond.initialized "java/lang/Math", Cond.code Lib.Math.min.name Lib.Math.min.code 2 (some .int), Cond.fieldLink RX2 66 "TallyLogs$Replica" "hw" "I", Cond.methodLink RX2 69 Lib.Math.max.name, Cond.static Lib.Math.max.name, Cond.code Lib.Math.max.name Lib.Math.max.code 2 (some .int), Cond.methodLink RX2 54 yX2_leading, Cond.static yX5_contains, Cond.code yX5_contains cX5_contains 2 (some .boolean), Cond.methodLink RX2 58 yX2_knownEnd, Cond.instanceMethod yX2_knownEnd]
def wsX5_produce_r6 : List Cond := [Cond.selects RX2 yX2_knownEnd yX2_knownEnd, Cond.code yX2_knownEnd cX2_knownEnd 3 (some .int), Cond.fieldLink RX2 51 "TallyLogs$Replica" "known" "I"]
def wsX5_produce : List Cond := .code yX5_produce cX5_produce 11 (some .int) :: ((wsX5_produce_r1 ++ (wsX5_produce_r2 ++ (wsX5_produce_r3 ++ (wsX5_produce_r4 ++ (wsX5_produce_r5 ++ wsX5_produce_r6))))) ++ wsX30 ++ wsX20 ++ wsX40 ++ wsX50 ++ wsX00)
def wsX5_begin : List Cond := .code yX5_begin cX5_begin 3 (some .int) :: ([.fieldLink RX5 75 "TallyLogs$Producer" "generation" "I", .fieldLink RX5 78 "TallyLogs$Producer" "mode" "I", .methodLink RX5 85 yX5_producerOf, .instanceMethod yX5_producerOf, .selects RX5 yX5_producerOf yX5_producerOf, .initialized RX5, .code yX5_producerOf cX5_producerOf 2 (some (.object "TallyLogs$Producer")), .methodLink RX5 71 yX5_producerAt, .instanceMethod yX5_producerAt, .selects RX5 yX5_producerAt yX5_producerAt, .code yX5_producerAt cX5_producerAt 2 (some (.object "TallyLogs$Producer")), .fieldLink RX5 17 "TallyLogs" "producers" "[LTallyLogs$Producer;", .methodLink RX5 92 yX5_generationOf, .static yX5_generationOf, .code yX5_generationOf cX5_generationOf 1 (some .int), .methodLink RX5 135 yX3_open, .instanceMethod yX3_open, .selects RX3 yX3_open yX3_open, .initialized RX3, .code yX3_open cX3_open 1 none, .fieldLink RX3 15 "TallyLogs$Producer" "mode" "I", .fieldLink RX3 9 "TallyLogs$Producer" "generation" "I", .fieldLink RX3 22 "TallyLogs$Producer" "boundGeneration" "I", .fieldLink RX3 25 "TallyLogs$Producer" "left" "I"] ++ wsX30 ++ wsX50)
def wsX5_finish_r1 : List Cond := [Cond.fieldLink RX5 75 "TallyLogs$Producer" "generation" "I", Cond.fieldLink RX5 78 "TallyLogs$Producer" "mode" "I", Cond.fieldLink RX5 126 "TallyLogs$Producer" "left" "I", Cond.methodLink RX5 85 yX5_producerOf, Cond.instanceMethod yX5_producerOf, Cond.selects RX5 yX5_producerOf yX5_producerOf, Cond.initialized RX5, Cond.code yX5_producerOf cX5_producerOf 2 (some (.object "TallyLogs$Producer")), Cond.methodLink RX5 71 yX5_producerAt, Cond.instanceMethod yX5_producerAt, Cond.selects RX5 yX5_producerAt yX5_producerAt, Cond.code yX5_producerAt cX5_producerAt 2 (some (.object "TallyLogs$Producer")), Cond.fieldLink RX5 17 "TallyLogs" "producers" "[LTallyLogs$Producer;", Cond.methodLink RX5 92 yX5_generationOf, Cond.static yX5_generationOf, Cond.code yX5_generationOf cX5_generationOf 1 (some .int), Cond.methodLink RX5 81 yX3_startEnding, Cond.instanceMethod yX3_startEnding, Cond.selects RX3 yX3_startEnding yX3_startEnding, Cond.initialized RX3, Cond.code yX3_startEnding cX3_startEnding 2 none, Cond.fieldLink RX3 15 "TallyLogs$Producer" "mode" "I", Cond.fieldLink RX3 18 "TallyLogs$Producer" "commits" "Z", Cond.methodLink RX5 42 yJ6_bitCount_0f7a4]
def wsX5_finish_r2 : List Cond := [Cond.static yJ6_bitCount_0f7a4, Cond.initialized RJ6, Cond.code yJ6_bitCount_0f7a4 cJ6_bitCount_0f7a4 1 (some .int), Cond.constant RJ6 265 (1431655765), Cond.constant RJ6 266 (858993459), Cond.constant RJ6 267 (252645135)]
def wsX5_finish : List Cond := .code yX5_finish cX5_finish 4 (some .int) :: ((wsX5_finish_r1 ++ wsX5_finish_r2) ++ wsX30 ++ wsX50)
def wsX5_markEnd_r1 : List Cond := [Cond.classLink RX5 179 RX0, Cond.instantiable RX0 8, Cond.initialized RX0, Cond.fieldLink RX5 115 "TallyLogs$Partition" "epoch" "I", Cond.fieldLink RX5 254 "TallyLogs$Producer" "commits" "Z", Cond.fieldLink RX5 98 "TallyLogs$Producer" "number" "I", Cond.fieldLink RX5 257 "TallyLogs$Producer" "boundGeneration" "I", Cond.methodLink RX5 88 yX2_leading, Cond.instanceMethod yX2_leading, Cond.selects RX2 yX2_leading yX2_leading, Cond.initialized RX2, Cond.code yX2_leading cX2_leading 1 (some (.object "TallyLogs$Replica")), Cond.fieldLink RX2 34 "TallyLogs$Partition" "leader" "I", Cond.methodLink RX2 44 yX2_replicaAt, Cond.instanceMethod yX2_replicaAt, Cond.selects RX2 yX2_replicaAt yX2_replicaAt, Cond.code yX2_replicaAt cX2_replicaAt 2 (some (.object "TallyLogs$Replica")), Cond.fieldLink RX2 11 "TallyLogs$Partition" "replicas" "[LTallyLogs$Replica;", Cond.methodLink RX5 111 yX4_isFull, Cond.instanceMethod yX4_isFull, Cond.selects RX4 yX4_isFull yX4_isFull, Cond.initialized RX4, Cond.code yX4_isFull cX4_isFull 1 (some .boolean), Cond.methodLink RX4 42 yX4_held]
def wsX5_markEnd_r2 : List Cond := [Cond.instanceMethod yX4_held, Cond.selects RX4 yX4_held yX4_held, Cond.code yX4_held cX4_held 1 (some .int), Cond.fieldLink RX4 21 "TallyLogs$Replica" "end" "I", Cond.fieldLink RX4 17 "TallyLogs$Replica" "start" "I", Cond.methodLink RX5 260 yX0_init_, Cond.instanceMethod yX0_init_, Cond.code yX0_init_ cX0_init_ 5 none, Cond.methodLink RX0 3 objectInit, Cond.instanceMethod objectInit, Cond.code objectInit ⟨#[0xb1]⟩ 1 none, Cond.fieldLink RX0 9 "TallyLogs$Entry" "epoch" "I", Cond.fieldLink RX0 15 "TallyLogs$Entry" "kind" "I", Cond.fieldLink RX0 18 "TallyLogs$Entry" "producer" "I", Cond.fieldLink RX0 21 "TallyLogs$Entry" "generation" "I", Cond.fieldLink RX0 24 "TallyLogs$Entry" "seq" "I", Cond.fieldLink RX0 27 "TallyLogs$Entry" "key" "I", Cond.fieldLink RX0 30 "TallyLogs$Entry" "value" "I", Cond.fieldLink RX0 33 "TallyLogs$Entry" "bound" "Z", Cond.methodLink RX5 122 yX4_append, Cond.instanceMethod yX4_append, Cond.selects RX4 yX4_append yX4_append, Cond.code yX4_append cX4_append 2 none, Cond.fieldLink RX4 11 "TallyLogs$Replica" "slots" "[LTallyLogs$Entry;"]
def wsX5_markEnd_r3 : List Cond := [Cond.methodLink RX4 36 yJ9_floorMod_7cf53, Cond.static yJ9_floorMod_7cf53, Cond.initialized RJ9, Cond.code yJ9_floorMod_7cf53 cJ9_floorMod_7cf53 3 (some .int), Cond.methodLink RX5 129 yX2_raiseHw, Cond.instanceMethod yX2_raiseHw, Cond.selects RX2 yX2_raiseHw yX2_raiseHw, Cond.code yX2_raiseHw cX2_raiseHw 4 none, Cond.fieldLink RX2 48 "TallyLogs$Replica" "end" "I", Cond.fieldLink RX2 27 "TallyLogs$Partition" "inStep" "I", Cond.methodLink RX2 61 Lib.Math.min.name, Cond.static Lib.Math.min.name, Cond.initialized "java/lang/Math", Cond.code Lib.Math.min.name Lib.Math.min.code 2 (some .int), Cond.fieldLink RX2 66 "TallyLogs$Replica" "hw" "I", Cond.methodLink RX2 69 Lib.Math.max.name, Cond.static Lib.Math.max.name, Cond.code Lib.Math.max.name Lib.Math.max.code 2 (some .int), Cond.methodLink RX2 54 yX2_leading, Cond.static yX5_contains, Cond.initialized RX5, Cond.code yX5_contains cX5_contains 2 (some .boolean), Cond.methodLink RX2 58 yX2_knownEnd, Cond.instanceMethod yX2_knownEnd]
def wsX5_markEnd_r4 : List Cond := [Cond.selects RX2 yX2_knownEnd yX2_knownEnd, Cond.code yX2_knownEnd cX2_knownEnd 3 (some .int), Cond.fieldLink RX2 51 "TallyLogs$Replica" "known" "I"]
def wsX5_markEnd : List Cond := .code yX5_markEnd cX5_markEnd 3 (some .boolean) :: ((wsX5_markEnd_r1 ++ (wsX5_markEnd_r2 ++ (wsX5_markEnd_r3 ++ wsX5_markEnd_r4))) ++ wsX00 ++ wsX20 ++ wsX30 ++ wsX40)
def wsX5_settle_r1 : List Cond := [Cond.fieldLink RX5 78 "TallyLogs$Producer" "mode" "I", Cond.fieldLink RX5 126 "TallyLogs$Producer" "left" "I", Cond.fieldLink RX5 11 "TallyLogs" "partitions" "[LTallyLogs$Partition;", Cond.methodLink RX5 71 yX5_producerAt, Cond.instanceMethod yX5_producerAt, Cond.selects RX5 yX5_producerAt yX5_producerAt, Cond.initialized RX5, Cond.code yX5_producerAt cX5_producerAt 2 (some (.object "TallyLogs$Producer")), Cond.fieldLink RX5 17 "TallyLogs" "producers" "[LTallyLogs$Producer;", Cond.methodLink RX5 138 yX5_contains, Cond.static yX5_contains, Cond.code yX5_contains cX5_contains 2 (some .boolean), Cond.methodLink RX5 142 yX5_markEnd, Cond.static yX5_markEnd, Cond.code yX5_markEnd cX5_markEnd 3 (some .boolean), Cond.classLink RX5 179 RX0, Cond.instantiable RX0 8, Cond.initialized RX0, Cond.fieldLink RX5 115 "TallyLogs$Partition" "epoch" "I", Cond.fieldLink RX5 254 "TallyLogs$Producer" "commits" "Z", Cond.fieldLink RX5 98 "TallyLogs$Producer" "number" "I", Cond.fieldLink RX5 257 "TallyLogs$Producer" "boundGeneration" "I", Cond.methodLink RX5 88 yX2_leading, Cond.instanceMethod yX2_leading]
def wsX5_settle_r2 : List Cond := [Cond.selects RX2 yX2_leading yX2_leading, Cond.initialized RX2, Cond.code yX2_leading cX2_leading 1 (some (.object "TallyLogs$Replica")), Cond.fieldLink RX2 34 "TallyLogs$Partition" "leader" "I", Cond.methodLink RX2 44 yX2_replicaAt, Cond.instanceMethod yX2_replicaAt, Cond.selects RX2 yX2_replicaAt yX2_replicaAt, Cond.code yX2_replicaAt cX2_replicaAt 2 (some (.object "TallyLogs$Replica")), Cond.fieldLink RX2 11 "TallyLogs$Partition" "replicas" "[LTallyLogs$Replica;", Cond.methodLink RX5 111 yX4_isFull, Cond.instanceMethod yX4_isFull, Cond.selects RX4 yX4_isFull yX4_isFull, Cond.initialized RX4, Cond.code yX4_isFull cX4_isFull 1 (some .boolean), Cond.methodLink RX4 42 yX4_held, Cond.instanceMethod yX4_held, Cond.selects RX4 yX4_held yX4_held, Cond.code yX4_held cX4_held 1 (some .int), Cond.fieldLink RX4 21 "TallyLogs$Replica" "end" "I", Cond.fieldLink RX4 17 "TallyLogs$Replica" "start" "I", Cond.methodLink RX5 260 yX0_init_, Cond.instanceMethod yX0_init_, Cond.code yX0_init_ cX0_init_ 5 none, Cond.methodLink RX0 3 objectInit]
def wsX5_settle_r3 : List Cond := [Cond.instanceMethod objectInit, Cond.code objectInit ⟨#[0xb1]⟩ 1 none, Cond.fieldLink RX0 9 "TallyLogs$Entry" "epoch" "I", Cond.fieldLink RX0 15 "TallyLogs$Entry" "kind" "I", Cond.fieldLink RX0 18 "TallyLogs$Entry" "producer" "I", Cond.fieldLink RX0 21 "TallyLogs$Entry" "generation" "I", Cond.fieldLink RX0 24 "TallyLogs$Entry" "seq" "I", Cond.fieldLink RX0 27 "TallyLogs$Entry" "key" "I", Cond.fieldLink RX0 30 "TallyLogs$Entry" "value" "I", Cond.fieldLink RX0 33 "TallyLogs$Entry" "bound" "Z", Cond.methodLink RX5 122 yX4_append, Cond.instanceMethod yX4_append, Cond.selects RX4 yX4_append yX4_append, Cond.code yX4_append cX4_append 2 none, Cond.fieldLink RX4 11 "TallyLogs$Replica" "slots" "[LTallyLogs$Entry;", Cond.methodLink RX4 36 yJ9_floorMod_7cf53, Cond.static yJ9_floorMod_7cf53, Cond.initialized RJ9, Cond.code yJ9_floorMod_7cf53 cJ9_floorMod_7cf53 3 (some .int), Cond.methodLink RX5 129 yX2_raiseHw, Cond.instanceMethod yX2_raiseHw, Cond.selects RX2 yX2_raiseHw yX2_raiseHw, Cond.code yX2_raiseHw cX2_raiseHw 4 none, Cond.fieldLink RX2 48 "TallyLogs$Replica" "end" "I"]
def wsX5_settle_r4 : List Cond := [Cond.fieldLink RX2 27 "TallyLogs$Partition" "inStep" "I", Cond.methodLink RX2 61 Lib.Math.min.name, Cond.static Lib.Math.min.name, Cond.initialized "java/lang/Math", Cond.code Lib.Math.min.name Lib.Math.min.code 2 (some .int), Cond.fieldLink RX2 66 "TallyLogs$Replica" "hw" "I", Cond.methodLink RX2 69 Lib.Math.max.name, Cond.static Lib.Math.max.name, Cond.code Lib.Math.max.name Lib.Math.max.code 2 (some .int), Cond.methodLink RX2 54 yX2_leading, Cond.methodLink RX2 58 yX2_knownEnd, Cond.instanceMethod yX2_knownEnd, Cond.selects RX2 yX2_knownEnd yX2_knownEnd, Cond.code yX2_knownEnd cX2_knownEnd 3 (some .int), Cond.fieldLink RX2 51 "TallyLogs$Replica" "known" "I", Cond.methodLink RX5 42 yJ6_bitCount_0f7a4, Cond.static yJ6_bitCount_0f7a4, Cond.initialized RJ6, Cond.code yJ6_bitCount_0f7a4 cJ6_bitCount_0f7a4 1 (some .int), Cond.constant RJ6 265 (1431655765), Cond.constant RJ6 266 (858993459), Cond.constant RJ6 267 (252645135)]
def wsX5_settle : List Cond := .code yX5_settle cX5_settle 4 (some .int) :: ((wsX5_settle_r1 ++ (wsX5_settle_r2 ++ (wsX5_settle_r3 ++ wsX5_settle_r4))) ++ wsX30 ++ wsX50 ++ wsX00 ++ wsX20 ++ wsX40)
def wsX5_safe : List Cond := .code yX5_safe cX5_safe 5 (some .int) :: ([.fieldLink RX5 146 "TallyLogs$Replica" "hw" "I", .methodLink RX5 54 yX5_partitionAt, .instanceMethod yX5_partitionAt, .selects RX5 yX5_partitionAt yX5_partitionAt, .initialized RX5, .code yX5_partitionAt cX5_partitionAt 2 (some (.object "TallyLogs$Partition")), .fieldLink RX5 11 "TallyLogs" "partitions" "[LTallyLogs$Partition;", .methodLink RX5 88 yX2_leading, .instanceMethod yX2_leading, .selects RX2 yX2_leading yX2_leading, .initialized RX2, .code yX2_leading cX2_leading 1 (some (.object "TallyLogs$Replica")), .fieldLink RX2 34 "TallyLogs$Partition" "leader" "I", .methodLink RX2 44 yX2_replicaAt, .instanceMethod yX2_replicaAt, .selects RX2 yX2_replicaAt yX2_replicaAt, .code yX2_replicaAt cX2_replicaAt 2 (some (.object "TallyLogs$Replica")), .fieldLink RX2 11 "TallyLogs$Partition" "replicas" "[LTallyLogs$Replica;"] ++ wsX40 ++ wsX50 ++ wsX20)
def wsX5_follow_r1 : List Cond := [Cond.fieldLink RX5 27 "TallyLogs" "up" "I", Cond.fieldLink RX5 51 "TallyLogs$Partition" "leader" "I", Cond.fieldLink RX5 132 "TallyLogs$Replica" "end" "I", Cond.fieldLink RX5 157 "TallyLogs$Replica" "known" "I", Cond.fieldLink RX5 31 "TallyLogs" "now" "I", Cond.fieldLink RX5 160 "TallyLogs$Replica" "caught" "I", Cond.fieldLink RX5 146 "TallyLogs$Replica" "hw" "I", Cond.fieldLink RX5 58 "TallyLogs$Partition" "inStep" "I", Cond.methodLink RX5 54 yX5_partitionAt, Cond.instanceMethod yX5_partitionAt, Cond.selects RX5 yX5_partitionAt yX5_partitionAt, Cond.initialized RX5, Cond.code yX5_partitionAt cX5_partitionAt 2 (some (.object "TallyLogs$Partition")), Cond.fieldLink RX5 11 "TallyLogs" "partitions" "[LTallyLogs$Partition;", Cond.methodLink RX5 149 yX2_replicaAt, Cond.instanceMethod yX2_replicaAt, Cond.selects RX2 yX2_replicaAt yX2_replicaAt, Cond.initialized RX2, Cond.code yX2_replicaAt cX2_replicaAt 2 (some (.object "TallyLogs$Replica")), Cond.fieldLink RX2 11 "TallyLogs$Partition" "replicas" "[LTallyLogs$Replica;", Cond.methodLink RX5 138 yX5_contains, Cond.static yX5_contains, Cond.code yX5_contains cX5_contains 2 (some .boolean), Cond.methodLink RX5 88 yX2_leading]
def wsX5_follow_r2 : List Cond := [Cond.instanceMethod yX2_leading, Cond.selects RX2 yX2_leading yX2_leading, Cond.code yX2_leading cX2_leading 1 (some (.object "TallyLogs$Replica")), Cond.fieldLink RX2 34 "TallyLogs$Partition" "leader" "I", Cond.methodLink RX2 44 yX2_replicaAt, Cond.methodLink RX5 153 yX4_agreeWith, Cond.instanceMethod yX4_agreeWith, Cond.selects RX4 yX4_agreeWith yX4_agreeWith, Cond.initialized RX4, Cond.code yX4_agreeWith cX4_agreeWith 3 none, Cond.fieldLink RX4 21 "TallyLogs$Replica" "end" "I", Cond.fieldLink RX4 17 "TallyLogs$Replica" "start" "I", Cond.methodLink RX4 46 Lib.Math.max.name, Cond.static Lib.Math.max.name, Cond.initialized "java/lang/Math", Cond.code Lib.Math.max.name Lib.Math.max.code 2 (some .int), Cond.fieldLink RX4 27 "TallyLogs$Replica" "flushed" "I", Cond.methodLink RX4 49 Lib.Math.min.name, Cond.static Lib.Math.min.name, Cond.code Lib.Math.min.name Lib.Math.min.code 2 (some .int), Cond.methodLink RX4 63 yX4_hasSameEpoch, Cond.instanceMethod yX4_hasSameEpoch, Cond.selects RX4 yX4_hasSameEpoch yX4_hasSameEpoch, Cond.code yX4_hasSameEpoch cX4_hasSameEpoch 5 (some .boolean)]
def wsX5_follow_r3 : List Cond := [Cond.fieldLink RX4 67 "TallyLogs$Entry" "epoch" "I", Cond.methodLink RX4 52 yX4_entryAt, Cond.instanceMethod yX4_entryAt, Cond.selects RX4 yX4_entryAt yX4_entryAt, Cond.code yX4_entryAt cX4_entryAt 2 (some (.object "TallyLogs$Entry")), Cond.fieldLink RX4 11 "TallyLogs$Replica" "slots" "[LTallyLogs$Entry;", Cond.methodLink RX4 36 yJ9_floorMod_7cf53, Cond.static yJ9_floorMod_7cf53, Cond.initialized RJ9, Cond.code yJ9_floorMod_7cf53 cJ9_floorMod_7cf53 3 (some .int), Cond.methodLink RX5 129 yX2_raiseHw, Cond.instanceMethod yX2_raiseHw, Cond.selects RX2 yX2_raiseHw yX2_raiseHw, Cond.code yX2_raiseHw cX2_raiseHw 4 none, Cond.fieldLink RX2 48 "TallyLogs$Replica" "end" "I", Cond.fieldLink RX2 27 "TallyLogs$Partition" "inStep" "I", Cond.methodLink RX2 61 Lib.Math.min.name, Cond.fieldLink RX2 66 "TallyLogs$Replica" "hw" "I", Cond.methodLink RX2 69 Lib.Math.max.name, Cond.methodLink RX2 54 yX2_leading, Cond.methodLink RX2 58 yX2_knownEnd, Cond.instanceMethod yX2_knownEnd, Cond.selects RX2 yX2_knownEnd yX2_knownEnd, Cond.code yX2_knownEnd cX2_knownEnd 3 (some .int)]
def wsX5_follow_r4 : List Cond := [Cond.fieldLink RX2 51 "TallyLogs$Replica" "known" "I", Cond.methodLink RX5 163 yX4_fetchFrom, Cond.instanceMethod yX4_fetchFrom, Cond.selects RX4 yX4_fetchFrom yX4_fetchFrom, Cond.code yX4_fetchFrom cX4_fetchFrom 3 (some .int), Cond.fieldLink RX4 24 "TallyLogs$Replica" "hw" "I", Cond.methodLink RX4 70 yX4_dropBefore, Cond.instanceMethod yX4_dropBefore, Cond.selects RX4 yX4_dropBefore yX4_dropBefore, Cond.code yX4_dropBefore cX4_dropBefore 2 none, Cond.methodLink RX4 74 yX4_append, Cond.instanceMethod yX4_append, Cond.selects RX4 yX4_append yX4_append, Cond.code yX4_append cX4_append 2 none]
def wsX5_follow : List Cond := .code yX5_follow cX5_follow 6 (some .int) :: ((wsX5_follow_r1 ++ (wsX5_follow_r2 ++ (wsX5_follow_r3 ++ wsX5_follow_r4))) ++ wsX50 ++ wsX20 ++ wsX40 ++ wsX00)
def wsX5_consume_r1 : List Cond := [Cond.fieldLink RX5 167 "TallyLogs$Replica" "start" "I", Cond.fieldLink RX5 146 "TallyLogs$Replica" "hw" "I", Cond.fieldLink RX5 34 "TallyLogs" "lastSeen" "LTallyLogs$Entry;", Cond.methodLink RX5 54 yX5_partitionAt, Cond.instanceMethod yX5_partitionAt, Cond.selects RX5 yX5_partitionAt yX5_partitionAt, Cond.initialized RX5, Cond.code yX5_partitionAt cX5_partitionAt 2 (some (.object "TallyLogs$Partition")), Cond.fieldLink RX5 11 "TallyLogs" "partitions" "[LTallyLogs$Partition;", Cond.methodLink RX5 88 yX2_leading, Cond.instanceMethod yX2_leading, Cond.selects RX2 yX2_leading yX2_leading, Cond.initialized RX2, Cond.code yX2_leading cX2_leading 1 (some (.object "TallyLogs$Replica")), Cond.fieldLink RX2 34 "TallyLogs$Partition" "leader" "I", Cond.methodLink RX2 44 yX2_replicaAt, Cond.instanceMethod yX2_replicaAt, Cond.selects RX2 yX2_replicaAt yX2_replicaAt, Cond.code yX2_replicaAt cX2_replicaAt 2 (some (.object "TallyLogs$Replica")), Cond.fieldLink RX2 11 "TallyLogs$Partition" "replicas" "[LTallyLogs$Replica;", Cond.methodLink RX5 170 yX4_firstVisible, Cond.instanceMethod yX4_firstVisible, Cond.selects RX4 yX4_firstVisible yX4_firstVisible, Cond.initialized RX4]
def wsX5_consume_r2 : List Cond := [Cond.code yX4_firstVisible cX4_firstVisible 6 (some .int), Cond.fieldLink RX4 24 "TallyLogs$Replica" "hw" "I", Cond.methodLink RX4 49 Lib.Math.min.name, Cond.static Lib.Math.min.name, Cond.initialized "java/lang/Math", Cond.code Lib.Math.min.name Lib.Math.min.code 2 (some .int), Cond.fieldLink RX4 82 "TallyLogs$Entry" "kind" "I", Cond.methodLink RX4 93 yX4_firstOpen, Cond.instanceMethod yX4_firstOpen, Cond.selects RX4 yX4_firstOpen yX4_firstOpen, Cond.code yX4_firstOpen cX4_firstOpen 3 (some .int), Cond.fieldLink RX4 17 "TallyLogs$Replica" "start" "I", Cond.fieldLink RX4 21 "TallyLogs$Replica" "end" "I", Cond.fieldLink RX4 85 "TallyLogs$Entry" "bound" "Z", Cond.methodLink RX4 52 yX4_entryAt, Cond.instanceMethod yX4_entryAt, Cond.selects RX4 yX4_entryAt yX4_entryAt, Cond.code yX4_entryAt cX4_entryAt 2 (some (.object "TallyLogs$Entry")), Cond.fieldLink RX4 11 "TallyLogs$Replica" "slots" "[LTallyLogs$Entry;", Cond.methodLink RX4 36 yJ9_floorMod_7cf53, Cond.static yJ9_floorMod_7cf53, Cond.initialized RJ9, Cond.code yJ9_floorMod_7cf53 cJ9_floorMod_7cf53 3 (some .int), Cond.methodLink RX4 89 yX4_endKindOf]
def wsX5_consume_r3 : List Cond := [Cond.instanceMethod yX4_endKindOf, Cond.selects RX4 yX4_endKindOf yX4_endKindOf, Cond.code yX4_endKindOf cX4_endKindOf 5 (some .int), Cond.methodLink RX4 78 yX0_isEndOf, Cond.instanceMethod yX0_isEndOf, Cond.selects RX0 yX0_isEndOf yX0_isEndOf, Cond.initialized RX0, Cond.code yX0_isEndOf cX0_isEndOf 2 (some .boolean), Cond.fieldLink RX0 15 "TallyLogs$Entry" "kind" "I", Cond.fieldLink RX0 18 "TallyLogs$Entry" "producer" "I", Cond.fieldLink RX0 21 "TallyLogs$Entry" "generation" "I", Cond.methodLink RX4 96 yX4_isAborted, Cond.instanceMethod yX4_isAborted, Cond.selects RX4 yX4_isAborted yX4_isAborted, Cond.code yX4_isAborted cX4_isAborted 3 (some .boolean), Cond.methodLink RX5 174 yX4_entryAt]
def wsX5_consume : List Cond := .code yX5_consume cX5_consume 8 (some .int) :: ((wsX5_consume_r1 ++ (wsX5_consume_r2 ++ wsX5_consume_r3)) ++ wsX40 ++ wsX50 ++ wsX20 ++ wsX00)
def wsX5_seen : List Cond := .code yX5_seen cX5_seen 2 (some .int) :: ([.fieldLink RX5 34 "TallyLogs" "lastSeen" "LTallyLogs$Entry;", .fieldLink RX5 178 "TallyLogs$Entry" "epoch" "I", .fieldLink RX5 181 "TallyLogs$Entry" "producer" "I", .fieldLink RX5 184 "TallyLogs$Entry" "generation" "I", .fieldLink RX5 185 "TallyLogs$Entry" "seq" "I", .fieldLink RX5 188 "TallyLogs$Entry" "key" "I", .fieldLink RX5 191 "TallyLogs$Entry" "value" "I"] ++ wsX50 ++ wsX00)
def wsX5_groupAt : List Cond := .code yX5_groupAt cX5_groupAt 2 (some (.object "TallyLogs$Group")) :: ([.fieldLink RX5 23 "TallyLogs" "groups" "[LTallyLogs$Group;"] ++ wsX50)
def wsX5_member : List Cond := .code yX5_member cX5_member 4 (some .int) :: ([.fieldLink RX5 198 "TallyLogs$Group" "members" "I", .fieldLink RX5 201 "TallyLogs$Group" "round" "I", .methodLink RX5 194 yX5_groupAt, .instanceMethod yX5_groupAt, .selects RX5 yX5_groupAt yX5_groupAt, .initialized RX5, .code yX5_groupAt cX5_groupAt 2 (some (.object "TallyLogs$Group")), .fieldLink RX5 23 "TallyLogs" "groups" "[LTallyLogs$Group;"] ++ wsX10 ++ wsX50)
def wsX5_placeOf : List Cond := .code yX5_placeOf cX5_placeOf 4 (some .int) :: ([.fieldLink RX5 11 "TallyLogs" "partitions" "[LTallyLogs$Partition;"] ++ wsX50)
def wsX5_owner_r1 : List Cond := [Cond.methodLink RX5 194 yX5_groupAt, Cond.instanceMethod yX5_groupAt, Cond.selects RX5 yX5_groupAt yX5_groupAt, Cond.initialized RX5, Cond.code yX5_groupAt cX5_groupAt 2 (some (.object "TallyLogs$Group")), Cond.fieldLink RX5 23 "TallyLogs" "groups" "[LTallyLogs$Group;", Cond.methodLink RX5 54 yX5_partitionAt, Cond.instanceMethod yX5_partitionAt, Cond.selects RX5 yX5_partitionAt yX5_partitionAt, Cond.code yX5_partitionAt cX5_partitionAt 2 (some (.object "TallyLogs$Partition")), Cond.fieldLink RX5 11 "TallyLogs" "partitions" "[LTallyLogs$Partition;", Cond.methodLink RX5 204 yX5_placeOf, Cond.instanceMethod yX5_placeOf, Cond.selects RX5 yX5_placeOf yX5_placeOf, Cond.code yX5_placeOf cX5_placeOf 4 (some .int), Cond.methodLink RX5 207 yX1_memberAt, Cond.instanceMethod yX1_memberAt, Cond.selects RX1 yX1_memberAt yX1_memberAt, Cond.initialized RX1, Cond.code yX1_memberAt cX1_memberAt 5 (some .int), Cond.fieldLink RX1 9 "TallyLogs$Group" "members" "I", Cond.methodLink RX1 22 yJ6_bitCount_0f7a4, Cond.static yJ6_bitCount_0f7a4, Cond.initialized RJ6]
def wsX5_owner_r2 : List Cond := [Cond.code yJ6_bitCount_0f7a4 cJ6_bitCount_0f7a4 1 (some .int), Cond.constant RJ6 265 (1431655765), Cond.constant RJ6 266 (858993459), Cond.constant RJ6 267 (252645135), Cond.static yX5_contains, Cond.code yX5_contains cX5_contains 2 (some .boolean)]
def wsX5_owner : List Cond := .code yX5_owner cX5_owner 5 (some .int) :: ((wsX5_owner_r1 ++ wsX5_owner_r2) ++ wsX50 ++ wsX10)
def wsX5_move_r1 : List Cond := [Cond.fieldLink RX5 201 "TallyLogs$Group" "round" "I", Cond.methodLink RX5 194 yX5_groupAt, Cond.instanceMethod yX5_groupAt, Cond.selects RX5 yX5_groupAt yX5_groupAt, Cond.initialized RX5, Cond.code yX5_groupAt cX5_groupAt 2 (some (.object "TallyLogs$Group")), Cond.fieldLink RX5 23 "TallyLogs" "groups" "[LTallyLogs$Group;", Cond.methodLink RX5 54 yX5_partitionAt, Cond.instanceMethod yX5_partitionAt, Cond.selects RX5 yX5_partitionAt yX5_partitionAt, Cond.code yX5_partitionAt cX5_partitionAt 2 (some (.object "TallyLogs$Partition")), Cond.fieldLink RX5 11 "TallyLogs" "partitions" "[LTallyLogs$Partition;", Cond.methodLink RX5 204 yX5_placeOf, Cond.instanceMethod yX5_placeOf, Cond.selects RX5 yX5_placeOf yX5_placeOf, Cond.code yX5_placeOf cX5_placeOf 4 (some .int), Cond.methodLink RX5 207 yX1_memberAt, Cond.instanceMethod yX1_memberAt, Cond.selects RX1 yX1_memberAt yX1_memberAt, Cond.initialized RX1, Cond.code yX1_memberAt cX1_memberAt 5 (some .int), Cond.fieldLink RX1 9 "TallyLogs$Group" "members" "I", Cond.methodLink RX1 22 yJ6_bitCount_0f7a4, Cond.static yJ6_bitCount_0f7a4]
def wsX5_move_r2 : List Cond := [Cond.initialized RJ6, Cond.code yJ6_bitCount_0f7a4 cJ6_bitCount_0f7a4 1 (some .int), Cond.constant RJ6 265 (1431655765), Cond.constant RJ6 266 (858993459), Cond.constant RJ6 267 (252645135), Cond.static yX5_contains, Cond.code yX5_contains cX5_contains 2 (some .boolean), Cond.methodLink RX5 210 yX1_setOffset, Cond.instanceMethod yX1_setOffset, Cond.selects RX1 yX1_setOffset yX1_setOffset, Cond.code yX1_setOffset cX1_setOffset 3 none, Cond.fieldLink RX1 18 "TallyLogs$Group" "offsets" "[I"]
def wsX5_move : List Cond := .code yX5_move cX5_move 7 (some .int) :: ((wsX5_move_r1 ++ wsX5_move_r2) ++ wsX10 ++ wsX50)
def wsX5_position : List Cond := .code yX5_position cX5_position 4 (some .int) :: ([.methodLink RX5 194 yX5_groupAt, .instanceMethod yX5_groupAt, .selects RX5 yX5_groupAt yX5_groupAt, .initialized RX5, .code yX5_groupAt cX5_groupAt 2 (some (.object "TallyLogs$Group")), .fieldLink RX5 23 "TallyLogs" "groups" "[LTallyLogs$Group;", .methodLink RX5 54 yX5_partitionAt, .instanceMethod yX5_partitionAt, .selects RX5 yX5_partitionAt yX5_partitionAt, .code yX5_partitionAt cX5_partitionAt 2 (some (.object "TallyLogs$Partition")), .fieldLink RX5 11 "TallyLogs" "partitions" "[LTallyLogs$Partition;", .methodLink RX5 213 yX1_offsetFor, .instanceMethod yX1_offsetFor, .selects RX1 yX1_offsetFor yX1_offsetFor, .initialized RX1, .code yX1_offsetFor cX1_offsetFor 2 (some .int), .fieldLink RX1 18 "TallyLogs$Group" "offsets" "[I"] ++ wsX50 ++ wsX10)
def wsX5_tick_r1 : List Cond := [Cond.fieldLink RX5 31 "TallyLogs" "now" "I", Cond.fieldLink RX5 11 "TallyLogs" "partitions" "[LTallyLogs$Partition;", Cond.methodLink RX5 216 yX2_dropLate, Cond.instanceMethod yX2_dropLate, Cond.selects RX2 yX2_dropLate yX2_dropLate, Cond.initialized RX2, Cond.code yX2_dropLate cX2_dropLate 5 (some .int), Cond.fieldLink RX2 11 "TallyLogs$Partition" "replicas" "[LTallyLogs$Replica;", Cond.fieldLink RX2 34 "TallyLogs$Partition" "leader" "I", Cond.fieldLink RX2 27 "TallyLogs$Partition" "inStep" "I", Cond.fieldLink RX2 72 "TallyLogs$Replica" "caught" "I", Cond.methodLink RX2 54 yX2_leading, Cond.instanceMethod yX2_leading, Cond.selects RX2 yX2_leading yX2_leading, Cond.code yX2_leading cX2_leading 1 (some (.object "TallyLogs$Replica")), Cond.methodLink RX2 44 yX2_replicaAt, Cond.instanceMethod yX2_replicaAt, Cond.selects RX2 yX2_replicaAt yX2_replicaAt, Cond.code yX2_replicaAt cX2_replicaAt 2 (some (.object "TallyLogs$Replica")), Cond.static yX5_contains, Cond.initialized RX5, Cond.code yX5_contains cX5_contains 2 (some .boolean), Cond.methodLink RX2 75 yX2_raiseHw, Cond.instanceMethod yX2_raiseHw]
def wsX5_tick_r2 : List Cond := [Cond.selects RX2 yX2_raiseHw yX2_raiseHw, Cond.code yX2_raiseHw cX2_raiseHw 4 none, Cond.fieldLink RX2 48 "TallyLogs$Replica" "end" "I", Cond.methodLink RX2 61 Lib.Math.min.name, Cond.static Lib.Math.min.name, Cond.initialized "java/lang/Math", Cond.code Lib.Math.min.name Lib.Math.min.code 2 (some .int), Cond.fieldLink RX2 66 "TallyLogs$Replica" "hw" "I", Cond.methodLink RX2 69 Lib.Math.max.name, Cond.static Lib.Math.max.name, Cond.code Lib.Math.max.name Lib.Math.max.code 2 (some .int), Cond.methodLink RX2 58 yX2_knownEnd, Cond.instanceMethod yX2_knownEnd, Cond.selects RX2 yX2_knownEnd yX2_knownEnd, Cond.code yX2_knownEnd cX2_knownEnd 3 (some .int), Cond.fieldLink RX2 51 "TallyLogs$Replica" "known" "I"]
def wsX5_tick : List Cond := .code yX5_tick cX5_tick 5 (some .int) :: ((wsX5_tick_r1 ++ wsX5_tick_r2) ++ wsX50 ++ wsX20 ++ wsX40)
def wsX5_replicaOf : List Cond := .code yX5_replicaOf cX5_replicaOf 4 (some (.object "TallyLogs$Replica")) :: ([.methodLink RX5 54 yX5_partitionAt, .instanceMethod yX5_partitionAt, .selects RX5 yX5_partitionAt yX5_partitionAt, .initialized RX5, .code yX5_partitionAt cX5_partitionAt 2 (some (.object "TallyLogs$Partition")), .fieldLink RX5 11 "TallyLogs" "partitions" "[LTallyLogs$Partition;", .methodLink RX5 149 yX2_replicaAt, .instanceMethod yX2_replicaAt, .selects RX2 yX2_replicaAt yX2_replicaAt, .initialized RX2, .code yX2_replicaAt cX2_replicaAt 2 (some (.object "TallyLogs$Replica")), .fieldLink RX2 11 "TallyLogs$Partition" "replicas" "[LTallyLogs$Replica;"] ++ wsX50 ++ wsX20)
def wsX5_flush : List Cond := .code yX5_flush cX5_flush 5 (some .int) :: ([.fieldLink RX5 27 "TallyLogs" "up" "I", .fieldLink RX5 132 "TallyLogs$Replica" "end" "I", .fieldLink RX5 223 "TallyLogs$Replica" "flushed" "I", .methodLink RX5 219 yX5_replicaOf, .instanceMethod yX5_replicaOf, .selects RX5 yX5_replicaOf yX5_replicaOf, .initialized RX5, .code yX5_replicaOf cX5_replicaOf 4 (some (.object "TallyLogs$Replica")), .methodLink RX5 54 yX5_partitionAt, .instanceMethod yX5_partitionAt, .selects RX5 yX5_partitionAt yX5_partitionAt, .code yX5_partitionAt cX5_partitionAt 2 (some (.object "TallyLogs$Partition")), .fieldLink RX5 11 "TallyLogs" "partitions" "[LTallyLogs$Partition;", .methodLink RX5 149 yX2_replicaAt, .instanceMethod yX2_replicaAt, .selects RX2 yX2_replicaAt yX2_replicaAt, .initialized RX2, .code yX2_replicaAt cX2_replicaAt 2 (some (.object "TallyLogs$Replica")), .fieldLink RX2 11 "TallyLogs$Partition" "replicas" "[LTallyLogs$Replica;", .methodLink RX5 138 yX5_contains, .static yX5_contains, .code yX5_contains cX5_contains 2 (some .boolean)] ++ wsX50 ++ wsX40 ++ wsX20)
def wsX5_crash_r1 : List Cond := [Cond.fieldLink RX5 27 "TallyLogs" "up" "I", Cond.fieldLink RX5 11 "TallyLogs" "partitions" "[LTallyLogs$Partition;", Cond.fieldLink RX5 51 "TallyLogs$Partition" "leader" "I", Cond.methodLink RX5 138 yX5_contains, Cond.static yX5_contains, Cond.initialized RX5, Cond.code yX5_contains cX5_contains 2 (some .boolean), Cond.methodLink RX5 226 yX2_lose, Cond.instanceMethod yX2_lose, Cond.selects RX2 yX2_lose yX2_lose, Cond.initialized RX2, Cond.code yX2_lose cX2_lose 5 none, Cond.fieldLink RX2 34 "TallyLogs$Partition" "leader" "I", Cond.fieldLink RX2 27 "TallyLogs$Partition" "inStep" "I", Cond.methodLink RX2 44 yX2_replicaAt, Cond.instanceMethod yX2_replicaAt, Cond.selects RX2 yX2_replicaAt yX2_replicaAt, Cond.code yX2_replicaAt cX2_replicaAt 2 (some (.object "TallyLogs$Replica")), Cond.fieldLink RX2 11 "TallyLogs$Partition" "replicas" "[LTallyLogs$Replica;", Cond.methodLink RX2 78 yX4_loseUnflushed, Cond.instanceMethod yX4_loseUnflushed, Cond.selects RX4 yX4_loseUnflushed yX4_loseUnflushed, Cond.initialized RX4, Cond.code yX4_loseUnflushed cX4_loseUnflushed 2 none]
def wsX5_crash_r2 : List Cond := [Cond.fieldLink RX4 27 "TallyLogs$Replica" "flushed" "I", Cond.fieldLink RX4 21 "TallyLogs$Replica" "end" "I", Cond.methodLink RX4 49 Lib.Math.min.name, Cond.static Lib.Math.min.name, Cond.initialized "java/lang/Math", Cond.code Lib.Math.min.name Lib.Math.min.code 2 (some .int), Cond.fieldLink RX4 24 "TallyLogs$Replica" "hw" "I", Cond.methodLink RX2 75 yX2_raiseHw, Cond.instanceMethod yX2_raiseHw, Cond.selects RX2 yX2_raiseHw yX2_raiseHw, Cond.code yX2_raiseHw cX2_raiseHw 4 none, Cond.fieldLink RX2 48 "TallyLogs$Replica" "end" "I", Cond.methodLink RX2 61 Lib.Math.min.name, Cond.fieldLink RX2 66 "TallyLogs$Replica" "hw" "I", Cond.methodLink RX2 69 Lib.Math.max.name, Cond.static Lib.Math.max.name, Cond.code Lib.Math.max.name Lib.Math.max.code 2 (some .int), Cond.methodLink RX2 54 yX2_leading, Cond.instanceMethod yX2_leading, Cond.selects RX2 yX2_leading yX2_leading, Cond.code yX2_leading cX2_leading 1 (some (.object "TallyLogs$Replica")), Cond.methodLink RX2 58 yX2_knownEnd, Cond.instanceMethod yX2_knownEnd, Cond.selects RX2 yX2_knownEnd yX2_knownEnd]
def wsX5_crash_r3 : List Cond := [Cond.code yX2_knownEnd cX2_knownEnd 3 (some .int), Cond.fieldLink RX2 51 "TallyLogs$Replica" "known" "I"]
def wsX5_crash : List Cond := .code yX5_crash cX5_crash 6 (some .int) :: ((wsX5_crash_r1 ++ (wsX5_crash_r2 ++ wsX5_crash_r3)) ++ wsX50 ++ wsX20 ++ wsX40)
def wsX5_restart : List Cond := .code yX5_restart cX5_restart 4 (some .int) :: ([.fieldLink RX5 27 "TallyLogs" "up" "I", .fieldLink RX5 157 "TallyLogs$Replica" "known" "I", .methodLink RX5 138 yX5_contains, .static yX5_contains, .initialized RX5, .code yX5_contains cX5_contains 2 (some .boolean), .methodLink RX5 219 yX5_replicaOf, .instanceMethod yX5_replicaOf, .selects RX5 yX5_replicaOf yX5_replicaOf, .code yX5_replicaOf cX5_replicaOf 4 (some (.object "TallyLogs$Replica")), .methodLink RX5 54 yX5_partitionAt, .instanceMethod yX5_partitionAt, .selects RX5 yX5_partitionAt yX5_partitionAt, .code yX5_partitionAt cX5_partitionAt 2 (some (.object "TallyLogs$Partition")), .fieldLink RX5 11 "TallyLogs" "partitions" "[LTallyLogs$Partition;", .methodLink RX5 149 yX2_replicaAt, .instanceMethod yX2_replicaAt, .selects RX2 yX2_replicaAt yX2_replicaAt, .initialized RX2, .code yX2_replicaAt cX2_replicaAt 2 (some (.object "TallyLogs$Replica")), .fieldLink RX2 11 "TallyLogs$Partition" "replicas" "[LTallyLogs$Replica;"] ++ wsX50 ++ wsX40 ++ wsX20)
def wsX5_trim_r1 : List Cond := [Cond.fieldLink RX5 167 "TallyLogs$Replica" "start" "I", Cond.fieldLink RX5 146 "TallyLogs$Replica" "hw" "I", Cond.methodLink RX5 54 yX5_partitionAt, Cond.instanceMethod yX5_partitionAt, Cond.selects RX5 yX5_partitionAt yX5_partitionAt, Cond.initialized RX5, Cond.code yX5_partitionAt cX5_partitionAt 2 (some (.object "TallyLogs$Partition")), Cond.fieldLink RX5 11 "TallyLogs" "partitions" "[LTallyLogs$Partition;", Cond.methodLink RX5 88 yX2_leading, Cond.instanceMethod yX2_leading, Cond.selects RX2 yX2_leading yX2_leading, Cond.initialized RX2, Cond.code yX2_leading cX2_leading 1 (some (.object "TallyLogs$Replica")), Cond.fieldLink RX2 34 "TallyLogs$Partition" "leader" "I", Cond.methodLink RX2 44 yX2_replicaAt, Cond.instanceMethod yX2_replicaAt, Cond.selects RX2 yX2_replicaAt yX2_replicaAt, Cond.code yX2_replicaAt cX2_replicaAt 2 (some (.object "TallyLogs$Replica")), Cond.fieldLink RX2 11 "TallyLogs$Partition" "replicas" "[LTallyLogs$Replica;", Cond.methodLink RX5 229 yX4_dropBefore, Cond.instanceMethod yX4_dropBefore, Cond.selects RX4 yX4_dropBefore yX4_dropBefore, Cond.initialized RX4, Cond.code yX4_dropBefore cX4_dropBefore 2 none]
def wsX5_trim_r2 : List Cond := [Cond.fieldLink RX4 17 "TallyLogs$Replica" "start" "I", Cond.methodLink RX4 46 Lib.Math.max.name, Cond.static Lib.Math.max.name, Cond.initialized "java/lang/Math", Cond.code Lib.Math.max.name Lib.Math.max.code 2 (some .int), Cond.fieldLink RX4 27 "TallyLogs$Replica" "flushed" "I", Cond.methodLink RX5 232 yX4_held, Cond.instanceMethod yX4_held, Cond.selects RX4 yX4_held yX4_held, Cond.code yX4_held cX4_held 1 (some .int), Cond.fieldLink RX4 21 "TallyLogs$Replica" "end" "I"]
def wsX5_trim : List Cond := .code yX5_trim cX5_trim 5 (some .int) :: ((wsX5_trim_r1 ++ wsX5_trim_r2) ++ wsX40 ++ wsX50 ++ wsX20)
def wsX5_log_r1 : List Cond := [Cond.fieldLink RX5 167 "TallyLogs$Replica" "start" "I", Cond.fieldLink RX5 132 "TallyLogs$Replica" "end" "I", Cond.fieldLink RX5 146 "TallyLogs$Replica" "hw" "I", Cond.fieldLink RX5 223 "TallyLogs$Replica" "flushed" "I", Cond.fieldLink RX5 160 "TallyLogs$Replica" "caught" "I", Cond.methodLink RX5 54 yX5_partitionAt, Cond.instanceMethod yX5_partitionAt, Cond.selects RX5 yX5_partitionAt yX5_partitionAt, Cond.initialized RX5, Cond.code yX5_partitionAt cX5_partitionAt 2 (some (.object "TallyLogs$Partition")), Cond.fieldLink RX5 11 "TallyLogs" "partitions" "[LTallyLogs$Partition;", Cond.methodLink RX5 219 yX5_replicaOf, Cond.instanceMethod yX5_replicaOf, Cond.selects RX5 yX5_replicaOf yX5_replicaOf, Cond.code yX5_replicaOf cX5_replicaOf 4 (some (.object "TallyLogs$Replica")), Cond.methodLink RX5 149 yX2_replicaAt, Cond.instanceMethod yX2_replicaAt, Cond.selects RX2 yX2_replicaAt yX2_replicaAt, Cond.initialized RX2, Cond.code yX2_replicaAt cX2_replicaAt 2 (some (.object "TallyLogs$Replica")), Cond.fieldLink RX2 11 "TallyLogs$Partition" "replicas" "[LTallyLogs$Replica;", Cond.methodLink RX5 236 yX2_knownEnd, Cond.instanceMethod yX2_knownEnd, Cond.selects RX2 yX2_knownEnd yX2_knownEnd]
def wsX5_log_r2 : List Cond := [Cond.code yX2_knownEnd cX2_knownEnd 3 (some .int), Cond.fieldLink RX2 34 "TallyLogs$Partition" "leader" "I", Cond.fieldLink RX2 48 "TallyLogs$Replica" "end" "I", Cond.fieldLink RX2 51 "TallyLogs$Replica" "known" "I", Cond.methodLink RX2 44 yX2_replicaAt]
def wsX5_log : List Cond := .code yX5_log cX5_log 6 (some .int) :: ((wsX5_log_r1 ++ wsX5_log_r2) ++ wsX40 ++ wsX50 ++ wsX20)
def wsX5_record_r1 : List Cond := [Cond.constantLong RX5 239 (1099511627776), Cond.fieldLink RX5 178 "TallyLogs$Entry" "epoch" "I", Cond.fieldLink RX5 241 "TallyLogs$Entry" "kind" "I", Cond.fieldLink RX5 181 "TallyLogs$Entry" "producer" "I", Cond.fieldLink RX5 185 "TallyLogs$Entry" "seq" "I", Cond.fieldLink RX5 188 "TallyLogs$Entry" "key" "I", Cond.fieldLink RX5 191 "TallyLogs$Entry" "value" "I", Cond.fieldLink RX5 244 "TallyLogs$Entry" "bound" "Z", Cond.methodLink RX5 219 yX5_replicaOf, Cond.instanceMethod yX5_replicaOf, Cond.selects RX5 yX5_replicaOf yX5_replicaOf, Cond.initialized RX5, Cond.code yX5_replicaOf cX5_replicaOf 4 (some (.object "TallyLogs$Replica")), Cond.methodLink RX5 54 yX5_partitionAt, Cond.instanceMethod yX5_partitionAt, Cond.selects RX5 yX5_partitionAt yX5_partitionAt, Cond.code yX5_partitionAt cX5_partitionAt 2 (some (.object "TallyLogs$Partition")), Cond.fieldLink RX5 11 "TallyLogs" "partitions" "[LTallyLogs$Partition;", Cond.methodLink RX5 149 yX2_replicaAt, Cond.instanceMethod yX2_replicaAt, Cond.selects RX2 yX2_replicaAt yX2_replicaAt, Cond.initialized RX2, Cond.code yX2_replicaAt cX2_replicaAt 2 (some (.object "TallyLogs$Replica")), Cond.fieldLink RX2 11 "TallyLogs$Partition" "replicas" "[LTallyLogs$Replica;"]
def wsX5_record_r2 : List Cond := [Cond.methodLink RX5 174 yX4_entryAt, Cond.instanceMethod yX4_entryAt, Cond.selects RX4 yX4_entryAt yX4_entryAt, Cond.initialized RX4, Cond.code yX4_entryAt cX4_entryAt 2 (some (.object "TallyLogs$Entry")), Cond.fieldLink RX4 17 "TallyLogs$Replica" "start" "I", Cond.fieldLink RX4 21 "TallyLogs$Replica" "end" "I", Cond.fieldLink RX4 11 "TallyLogs$Replica" "slots" "[LTallyLogs$Entry;", Cond.methodLink RX4 36 yJ9_floorMod_7cf53, Cond.static yJ9_floorMod_7cf53, Cond.initialized RJ9, Cond.code yJ9_floorMod_7cf53 cJ9_floorMod_7cf53 3 (some .int)]
def wsX5_record : List Cond := .code yX5_record cX5_record 7 (some .long) :: ((wsX5_record_r1 ++ wsX5_record_r2) ++ wsX00 ++ wsX50 ++ wsX20 ++ wsX40)
def wsX5_firstOpenOf_r1 : List Cond := [Cond.methodLink RX5 261 yX4_firstOpen, Cond.instanceMethod yX4_firstOpen, Cond.selects RX4 yX4_firstOpen yX4_firstOpen, Cond.initialized RX4, Cond.code yX4_firstOpen cX4_firstOpen 3 (some .int), Cond.fieldLink RX4 17 "TallyLogs$Replica" "start" "I", Cond.fieldLink RX4 21 "TallyLogs$Replica" "end" "I", Cond.fieldLink RX4 85 "TallyLogs$Entry" "bound" "Z", Cond.methodLink RX4 52 yX4_entryAt, Cond.instanceMethod yX4_entryAt, Cond.selects RX4 yX4_entryAt yX4_entryAt, Cond.code yX4_entryAt cX4_entryAt 2 (some (.object "TallyLogs$Entry")), Cond.fieldLink RX4 11 "TallyLogs$Replica" "slots" "[LTallyLogs$Entry;", Cond.methodLink RX4 36 yJ9_floorMod_7cf53, Cond.static yJ9_floorMod_7cf53, Cond.initialized RJ9, Cond.code yJ9_floorMod_7cf53 cJ9_floorMod_7cf53 3 (some .int), Cond.methodLink RX4 89 yX4_endKindOf, Cond.instanceMethod yX4_endKindOf, Cond.selects RX4 yX4_endKindOf yX4_endKindOf, Cond.code yX4_endKindOf cX4_endKindOf 5 (some .int), Cond.fieldLink RX4 82 "TallyLogs$Entry" "kind" "I", Cond.methodLink RX4 78 yX0_isEndOf, Cond.instanceMethod yX0_isEndOf]
def wsX5_firstOpenOf_r2 : List Cond := [Cond.selects RX0 yX0_isEndOf yX0_isEndOf, Cond.initialized RX0, Cond.code yX0_isEndOf cX0_isEndOf 2 (some .boolean), Cond.fieldLink RX0 15 "TallyLogs$Entry" "kind" "I", Cond.fieldLink RX0 18 "TallyLogs$Entry" "producer" "I", Cond.fieldLink RX0 21 "TallyLogs$Entry" "generation" "I"]
def wsX5_firstOpenOf : List Cond := .code yX5_firstOpenOf cX5_firstOpenOf 1 (some .int) :: ((wsX5_firstOpenOf_r1 ++ wsX5_firstOpenOf_r2) ++ wsX40 ++ wsX00)
def wsX5_state_r1 : List Cond := [Cond.fieldLink RX5 51 "TallyLogs$Partition" "leader" "I", Cond.fieldLink RX5 115 "TallyLogs$Partition" "epoch" "I", Cond.fieldLink RX5 58 "TallyLogs$Partition" "inStep" "I", Cond.methodLink RX5 54 yX5_partitionAt, Cond.instanceMethod yX5_partitionAt, Cond.selects RX5 yX5_partitionAt yX5_partitionAt, Cond.initialized RX5, Cond.code yX5_partitionAt cX5_partitionAt 2 (some (.object "TallyLogs$Partition")), Cond.fieldLink RX5 11 "TallyLogs" "partitions" "[LTallyLogs$Partition;", Cond.methodLink RX5 88 yX2_leading, Cond.instanceMethod yX2_leading, Cond.selects RX2 yX2_leading yX2_leading, Cond.initialized RX2, Cond.code yX2_leading cX2_leading 1 (some (.object "TallyLogs$Replica")), Cond.fieldLink RX2 34 "TallyLogs$Partition" "leader" "I", Cond.methodLink RX2 44 yX2_replicaAt, Cond.instanceMethod yX2_replicaAt, Cond.selects RX2 yX2_replicaAt yX2_replicaAt, Cond.code yX2_replicaAt cX2_replicaAt 2 (some (.object "TallyLogs$Replica")), Cond.fieldLink RX2 11 "TallyLogs$Partition" "replicas" "[LTallyLogs$Replica;", Cond.methodLink RX5 248 yX5_firstOpenOf, Cond.static yX5_firstOpenOf, Cond.code yX5_firstOpenOf cX5_firstOpenOf 1 (some .int), Cond.methodLink RX5 261 yX4_firstOpen]
def wsX5_state_r2 : List Cond := [Cond.instanceMethod yX4_firstOpen, Cond.selects RX4 yX4_firstOpen yX4_firstOpen, Cond.initialized RX4, Cond.code yX4_firstOpen cX4_firstOpen 3 (some .int), Cond.fieldLink RX4 17 "TallyLogs$Replica" "start" "I", Cond.fieldLink RX4 21 "TallyLogs$Replica" "end" "I", Cond.fieldLink RX4 85 "TallyLogs$Entry" "bound" "Z", Cond.methodLink RX4 52 yX4_entryAt, Cond.instanceMethod yX4_entryAt, Cond.selects RX4 yX4_entryAt yX4_entryAt, Cond.code yX4_entryAt cX4_entryAt 2 (some (.object "TallyLogs$Entry")), Cond.fieldLink RX4 11 "TallyLogs$Replica" "slots" "[LTallyLogs$Entry;", Cond.methodLink RX4 36 yJ9_floorMod_7cf53, Cond.static yJ9_floorMod_7cf53, Cond.initialized RJ9, Cond.code yJ9_floorMod_7cf53 cJ9_floorMod_7cf53 3 (some .int), Cond.methodLink RX4 89 yX4_endKindOf, Cond.instanceMethod yX4_endKindOf, Cond.selects RX4 yX4_endKindOf yX4_endKindOf, Cond.code yX4_endKindOf cX4_endKindOf 5 (some .int), Cond.fieldLink RX4 82 "TallyLogs$Entry" "kind" "I", Cond.methodLink RX4 78 yX0_isEndOf, Cond.instanceMethod yX0_isEndOf, Cond.selects RX0 yX0_isEndOf yX0_isEndOf]
def wsX5_state_r3 : List Cond := [Cond.initialized RX0, Cond.code yX0_isEndOf cX0_isEndOf 2 (some .boolean), Cond.fieldLink RX0 15 "TallyLogs$Entry" "kind" "I", Cond.fieldLink RX0 18 "TallyLogs$Entry" "producer" "I", Cond.fieldLink RX0 21 "TallyLogs$Entry" "generation" "I"]
def wsX5_state : List Cond := .code yX5_state cX5_state 4 (some .int) :: ((wsX5_state_r1 ++ (wsX5_state_r2 ++ wsX5_state_r3)) ++ wsX20 ++ wsX50 ++ wsX40 ++ wsX00)
def wsX5_count : List Cond := .code yX5_count cX5_count 3 (some .int) :: ([.fieldLink RX5 31 "TallyLogs" "now" "I", .fieldLink RX5 27 "TallyLogs" "up" "I", .fieldLink RX5 78 "TallyLogs$Producer" "mode" "I", .methodLink RX5 71 yX5_producerAt, .instanceMethod yX5_producerAt, .selects RX5 yX5_producerAt yX5_producerAt, .initialized RX5, .code yX5_producerAt cX5_producerAt 2 (some (.object "TallyLogs$Producer")), .fieldLink RX5 17 "TallyLogs" "producers" "[LTallyLogs$Producer;"] ++ wsX50 ++ wsX30)
def wsX6_init : List Cond := .code yX6_init cX6_init 1 none :: ([.methodLink RX6 3 objectInit, .instanceMethod objectInit, .code objectInit ⟨#[0xb1]⟩ 1 none, .arrayClass .int, .fieldLink RX6 9 "TallyLogsModel$Log" "cell" "[I"] ++ wsX60)
def wsX6_get : List Cond := .code yX6_get cX6_get 3 (some .int) :: ([.fieldLink RX6 9 "TallyLogsModel$Log" "cell" "[I", .fieldLink RX6 15 "TallyLogsModel$Log" "start" "I"] ++ wsX60)
def wsX6_many : List Cond := .code yX6_many cX6_many 1 (some .int) :: ([.fieldLink RX6 19 "TallyLogsModel$Log" "end" "I", .fieldLink RX6 15 "TallyLogsModel$Log" "start" "I"] ++ wsX60)
def wsX6_from : List Cond := .code yX6_from cX6_from 2 none :: ([.fieldLink RX6 15 "TallyLogsModel$Log" "start" "I", .fieldLink RX6 19 "TallyLogsModel$Log" "end" "I", .fieldLink RX6 9 "TallyLogsModel$Log" "cell" "[I", .methodLink RX6 22 arraycopyName, .native arraycopyName, .static arraycopyName, .initialized "java/lang/System"] ++ wsX60)
def wsX6_add : List Cond := .code yX6_add cX6_add 10 none :: ([.fieldLink RX6 9 "TallyLogsModel$Log" "cell" "[I", .fieldLink RX6 19 "TallyLogsModel$Log" "end" "I", .methodLink RX6 28 yX6_many, .instanceMethod yX6_many, .selects RX6 yX6_many yX6_many, .initialized RX6, .code yX6_many cX6_many 1 (some .int), .fieldLink RX6 15 "TallyLogsModel$Log" "start" "I"] ++ wsX60)
def wsX6_take : List Cond := .code yX6_take cX6_take 3 none :: ([.fieldLink RX6 9 "TallyLogsModel$Log" "cell" "[I", .fieldLink RX6 15 "TallyLogsModel$Log" "start" "I", .methodLink RX6 22 arraycopyName, .native arraycopyName, .static arraycopyName, .initialized "java/lang/System", .fieldLink RX6 19 "TallyLogsModel$Log" "end" "I", .methodLink RX6 28 yX6_many, .instanceMethod yX6_many, .selects RX6 yX6_many yX6_many, .initialized RX6, .code yX6_many cX6_many 1 (some .int)] ++ wsX60)
def wsX7_in : List Cond := .code yX7_in cX7_in 6 (some .boolean) :: ([])
def wsJ7_fill_53178 : List Cond := .code yJ7_fill_53178 cJ7_fill_53178 4 none :: ([])
def wsX7_init_r1 : List Cond := [Cond.methodLink RX7 1 objectInit, Cond.instanceMethod objectInit, Cond.code objectInit ⟨#[0xb1]⟩ 1 none, Cond.fieldLink RX7 11 "TallyLogsModel" "log" "[[LTallyLogsModel$Log;", Cond.arrayClass .boolean, Cond.fieldLink RX7 14 "TallyLogsModel" "there" "[Z", Cond.arrayClass .int, Cond.fieldLink RX7 18 "TallyLogsModel" "replicas" "[I", Cond.fieldLink RX7 22 "TallyLogsModel" "leader" "[I", Cond.fieldLink RX7 25 "TallyLogsModel" "epoch" "[I", Cond.fieldLink RX7 28 "TallyLogsModel" "min" "[I", Cond.fieldLink RX7 31 "TallyLogsModel" "step" "[I", Cond.fieldLink RX7 34 "TallyLogsModel" "generation" "[I", Cond.fieldLink RX7 37 "TallyLogsModel" "mode" "[I", Cond.fieldLink RX7 40 "TallyLogsModel" "bound" "[I", Cond.fieldLink RX7 43 "TallyLogsModel" "endGeneration" "[I", Cond.fieldLink RX7 46 "TallyLogsModel" "endKind" "[I", Cond.fieldLink RX7 49 "TallyLogsModel" "members" "[I", Cond.fieldLink RX7 52 "TallyLogsModel" "round" "[I", Cond.fieldLink RX7 55 "TallyLogsModel" "position" "[I", Cond.fieldLink RX7 58 "TallyLogsModel" "seen" "[I", Cond.fieldLink RX7 61 "TallyLogsModel" "up" "I", Cond.classLink RX7 65 RX6, Cond.instantiable RX6 7]
def wsX7_init_r2 : List Cond := [Cond.initialized RX6, Cond.instanceMethod yX6_init, Cond.code yX6_init cX6_init 1 none, Cond.methodLink RX6 3 objectInit, Cond.fieldLink RX6 9 "TallyLogsModel$Log" "cell" "[I", Cond.methodLink RX7 68 yJ7_fill_53178, Cond.static yJ7_fill_53178, Cond.initialized RJ7, Cond.code yJ7_fill_53178 cJ7_fill_53178 4 none]
def wsX7_init : List Cond := .code yX7_init cX7_init 3 none :: ((wsX7_init_r1 ++ wsX7_init_r2) ++ wsX70 ++ wsX60)
def wsX7_isUp : List Cond := .code yX7_isUp cX7_isUp 2 (some .boolean) :: ([.constantLong RX7 74 (4), .fieldLink RX7 61 "TallyLogsModel" "up" "I", .methodLink RX7 76 yX7_in, .static yX7_in, .initialized RX7, .code yX7_in cX7_in 6 (some .boolean)] ++ wsX70)
def wsX7_isThere : List Cond := .code yX7_isThere cX7_isThere 2 (some .boolean) :: ([.constantLong RX7 80 (3), .fieldLink RX7 14 "TallyLogsModel" "there" "[Z", .methodLink RX7 76 yX7_in, .static yX7_in, .initialized RX7, .code yX7_in cX7_in 6 (some .boolean)] ++ wsX70)
def wsX7_isReplica : List Cond := .code yX7_isReplica cX7_isReplica 3 (some .boolean) :: ([.constantLong RX7 74 (4), .fieldLink RX7 18 "TallyLogsModel" "replicas" "[I", .methodLink RX7 82 yX7_isThere, .instanceMethod yX7_isThere, .selects RX7 yX7_isThere yX7_isThere, .initialized RX7, .code yX7_isThere cX7_isThere 2 (some .boolean), .constantLong RX7 80 (3), .fieldLink RX7 14 "TallyLogsModel" "there" "[Z", .methodLink RX7 76 yX7_in, .static yX7_in, .code yX7_in cX7_in 6 (some .boolean)] ++ wsX70)
def wsX7_own : List Cond := .code yX7_own cX7_own 2 (some (.object "TallyLogsModel$Log")) :: ([.fieldLink RX7 22 "TallyLogsModel" "leader" "[I", .fieldLink RX7 11 "TallyLogsModel" "log" "[[LTallyLogsModel$Log;", .methodLink RX7 86 yX7_isUp, .instanceMethod yX7_isUp, .selects RX7 yX7_isUp yX7_isUp, .initialized RX7, .code yX7_isUp cX7_isUp 2 (some .boolean), .constantLong RX7 74 (4), .fieldLink RX7 61 "TallyLogsModel" "up" "I", .methodLink RX7 76 yX7_in, .static yX7_in, .code yX7_in cX7_in 6 (some .boolean)] ++ wsX70)
def wsX7_known : List Cond := .code yX7_known cX7_known 3 (some .int) :: ([.fieldLink RX7 22 "TallyLogsModel" "leader" "[I", .fieldLink RX7 11 "TallyLogsModel" "log" "[[LTallyLogsModel$Log;", .fieldLink RX7 89 "TallyLogsModel$Log" "end" "I", .fieldLink RX7 92 "TallyLogsModel$Log" "known" "I"] ++ wsX70 ++ wsX60)
def wsX7_rise_r1 : List Cond := [Cond.constant RX7 101 (2147483647), Cond.fieldLink RX7 31 "TallyLogsModel" "step" "[I", Cond.methodLink RX7 105 Lib.Math.min.name, Cond.static Lib.Math.min.name, Cond.initialized "java/lang/Math", Cond.code Lib.Math.min.name Lib.Math.min.code 2 (some .int), Cond.fieldLink RX7 109 "TallyLogsModel$Log" "high" "I", Cond.methodLink RX7 95 yX7_own, Cond.instanceMethod yX7_own, Cond.selects RX7 yX7_own yX7_own, Cond.initialized RX7, Cond.code yX7_own cX7_own 2 (some (.object "TallyLogsModel$Log")), Cond.fieldLink RX7 22 "TallyLogsModel" "leader" "[I", Cond.fieldLink RX7 11 "TallyLogsModel" "log" "[[LTallyLogsModel$Log;", Cond.methodLink RX7 86 yX7_isUp, Cond.instanceMethod yX7_isUp, Cond.selects RX7 yX7_isUp yX7_isUp, Cond.code yX7_isUp cX7_isUp 2 (some .boolean), Cond.constantLong RX7 74 (4), Cond.fieldLink RX7 61 "TallyLogsModel" "up" "I", Cond.methodLink RX7 76 yX7_in, Cond.static yX7_in, Cond.code yX7_in cX7_in 6 (some .boolean), Cond.methodLink RX7 102 yX7_known]
def wsX7_rise_r2 : List Cond := [Cond.instanceMethod yX7_known, Cond.selects RX7 yX7_known yX7_known, Cond.code yX7_known cX7_known 3 (some .int), Cond.fieldLink RX7 89 "TallyLogsModel$Log" "end" "I", Cond.fieldLink RX7 92 "TallyLogsModel$Log" "known" "I"]
def wsX7_rise : List Cond := .code yX7_rise cX7_rise 5 none :: ((wsX7_rise_r1 ++ wsX7_rise_r2) ++ wsX70 ++ wsX60)
def wsJ6_numberOfTrailingZeros_0f7a4 : List Cond := .code yJ6_numberOfTrailingZeros_0f7a4 cJ6_numberOfTrailingZeros_0f7a4 2 (some .int) :: ([.constant RJ6 264 (65536)])
def wsX7_create_r1 : List Cond := [Cond.constantLong RX7 80 (3), Cond.fieldLink RX7 14 "TallyLogsModel" "there" "[Z", Cond.fieldLink RX7 61 "TallyLogsModel" "up" "I", Cond.fieldLink RX7 18 "TallyLogsModel" "replicas" "[I", Cond.fieldLink RX7 28 "TallyLogsModel" "min" "[I", Cond.fieldLink RX7 25 "TallyLogsModel" "epoch" "[I", Cond.fieldLink RX7 31 "TallyLogsModel" "step" "[I", Cond.fieldLink RX7 22 "TallyLogsModel" "leader" "[I", Cond.fieldLink RX7 11 "TallyLogsModel" "log" "[[LTallyLogsModel$Log;", Cond.fieldLink RX7 119 "TallyLogsModel" "now" "I", Cond.fieldLink RX7 122 "TallyLogsModel$Log" "caught" "I", Cond.fieldLink RX7 92 "TallyLogsModel$Log" "known" "I", Cond.methodLink RX7 76 yX7_in, Cond.static yX7_in, Cond.initialized RX7, Cond.code yX7_in cX7_in 6 (some .boolean), Cond.methodLink RX7 112 yJ6_bitCount_0f7a4, Cond.static yJ6_bitCount_0f7a4, Cond.initialized RJ6, Cond.code yJ6_bitCount_0f7a4 cJ6_bitCount_0f7a4 1 (some .int), Cond.constant RJ6 265 (1431655765), Cond.constant RJ6 266 (858993459), Cond.constant RJ6 267 (252645135), Cond.methodLink RX7 116 yJ6_numberOfTrailingZeros_0f7a4]
def wsX7_create_r2 : List Cond := [Cond.static yJ6_numberOfTrailingZeros_0f7a4, Cond.code yJ6_numberOfTrailingZeros_0f7a4 cJ6_numberOfTrailingZeros_0f7a4 2 (some .int), Cond.constant RJ6 264 (65536)]
def wsX7_create : List Cond := .code yX7_create cX7_create 6 (some .int) :: ((wsX7_create_r1 ++ wsX7_create_r2) ++ wsX70 ++ wsX60)
def wsX7_elect_r1 : List Cond := [Cond.fieldLink RX7 31 "TallyLogsModel" "step" "[I", Cond.fieldLink RX7 61 "TallyLogsModel" "up" "I", Cond.fieldLink RX7 18 "TallyLogsModel" "replicas" "[I", Cond.fieldLink RX7 22 "TallyLogsModel" "leader" "[I", Cond.fieldLink RX7 25 "TallyLogsModel" "epoch" "[I", Cond.fieldLink RX7 11 "TallyLogsModel" "log" "[[LTallyLogsModel$Log;", Cond.fieldLink RX7 92 "TallyLogsModel$Log" "known" "I", Cond.fieldLink RX7 119 "TallyLogsModel" "now" "I", Cond.fieldLink RX7 122 "TallyLogsModel$Log" "caught" "I", Cond.methodLink RX7 82 yX7_isThere, Cond.instanceMethod yX7_isThere, Cond.selects RX7 yX7_isThere yX7_isThere, Cond.initialized RX7, Cond.code yX7_isThere cX7_isThere 2 (some .boolean), Cond.constantLong RX7 80 (3), Cond.fieldLink RX7 14 "TallyLogsModel" "there" "[Z", Cond.methodLink RX7 76 yX7_in, Cond.static yX7_in, Cond.code yX7_in cX7_in 6 (some .boolean), Cond.methodLink RX7 116 yJ6_numberOfTrailingZeros_0f7a4, Cond.static yJ6_numberOfTrailingZeros_0f7a4, Cond.initialized RJ6, Cond.code yJ6_numberOfTrailingZeros_0f7a4 cJ6_numberOfTrailingZeros_0f7a4 2 (some .int), Cond.constant RJ6 264 (65536)]
def wsX7_elect_r2 : List Cond := [Cond.methodLink RX7 125 yX7_rise, Cond.instanceMethod yX7_rise, Cond.selects RX7 yX7_rise yX7_rise, Cond.code yX7_rise cX7_rise 5 none, Cond.constant RX7 101 (2147483647), Cond.methodLink RX7 105 Lib.Math.min.name, Cond.static Lib.Math.min.name, Cond.initialized "java/lang/Math", Cond.code Lib.Math.min.name Lib.Math.min.code 2 (some .int), Cond.fieldLink RX7 109 "TallyLogsModel$Log" "high" "I", Cond.methodLink RX7 95 yX7_own, Cond.instanceMethod yX7_own, Cond.selects RX7 yX7_own yX7_own, Cond.code yX7_own cX7_own 2 (some (.object "TallyLogsModel$Log")), Cond.methodLink RX7 86 yX7_isUp, Cond.instanceMethod yX7_isUp, Cond.selects RX7 yX7_isUp yX7_isUp, Cond.code yX7_isUp cX7_isUp 2 (some .boolean), Cond.constantLong RX7 74 (4), Cond.methodLink RX7 102 yX7_known, Cond.instanceMethod yX7_known, Cond.selects RX7 yX7_known yX7_known, Cond.code yX7_known cX7_known 3 (some .int), Cond.fieldLink RX7 89 "TallyLogsModel$Log" "end" "I"]
def wsX7_elect : List Cond := .code yX7_elect cX7_elect 6 (some .int) :: ((wsX7_elect_r1 ++ wsX7_elect_r2) ++ wsX70 ++ wsX60)
def wsX7_register : List Cond := .code yX7_register cX7_register 2 (some .int) :: ([.constantLong RX7 129 (5), .fieldLink RX7 37 "TallyLogsModel" "mode" "[I", .fieldLink RX7 43 "TallyLogsModel" "endGeneration" "[I", .fieldLink RX7 34 "TallyLogsModel" "generation" "[I", .fieldLink RX7 46 "TallyLogsModel" "endKind" "[I", .methodLink RX7 76 yX7_in, .static yX7_in, .initialized RX7, .code yX7_in cX7_in 6 (some .boolean)] ++ wsX70)
def wsX7_isHandle : List Cond := .code yX7_isHandle cX7_isHandle 1 (some .boolean) :: ([])
def wsX7_produce_r1 : List Cond := [Cond.fieldLink RX7 34 "TallyLogsModel" "generation" "[I", Cond.fieldLink RX7 37 "TallyLogsModel" "mode" "[I", Cond.fieldLink RX7 31 "TallyLogsModel" "step" "[I", Cond.fieldLink RX7 28 "TallyLogsModel" "min" "[I", Cond.fieldLink RX7 134 "TallyLogsModel$Log" "start" "I", Cond.fieldLink RX7 89 "TallyLogsModel$Log" "end" "I", Cond.fieldLink RX7 25 "TallyLogsModel" "epoch" "[I", Cond.fieldLink RX7 40 "TallyLogsModel" "bound" "[I", Cond.methodLink RX7 82 yX7_isThere, Cond.instanceMethod yX7_isThere, Cond.selects RX7 yX7_isThere yX7_isThere, Cond.initialized RX7, Cond.code yX7_isThere cX7_isThere 2 (some .boolean), Cond.constantLong RX7 80 (3), Cond.fieldLink RX7 14 "TallyLogsModel" "there" "[Z", Cond.methodLink RX7 76 yX7_in, Cond.static yX7_in, Cond.code yX7_in cX7_in 6 (some .boolean), Cond.methodLink RX7 131 yX7_isHandle, Cond.static yX7_isHandle, Cond.code yX7_isHandle cX7_isHandle 1 (some .boolean), Cond.methodLink RX7 95 yX7_own, Cond.instanceMethod yX7_own, Cond.selects RX7 yX7_own yX7_own]
def wsX7_produce_r2 : List Cond := [Cond.code yX7_own cX7_own 2 (some (.object "TallyLogsModel$Log")), Cond.fieldLink RX7 22 "TallyLogsModel" "leader" "[I", Cond.fieldLink RX7 11 "TallyLogsModel" "log" "[[LTallyLogsModel$Log;", Cond.methodLink RX7 86 yX7_isUp, Cond.instanceMethod yX7_isUp, Cond.selects RX7 yX7_isUp yX7_isUp, Cond.code yX7_isUp cX7_isUp 2 (some .boolean), Cond.constantLong RX7 74 (4), Cond.fieldLink RX7 61 "TallyLogsModel" "up" "I", Cond.methodLink RX7 112 yJ6_bitCount_0f7a4, Cond.static yJ6_bitCount_0f7a4, Cond.initialized RJ6, Cond.code yJ6_bitCount_0f7a4 cJ6_bitCount_0f7a4 1 (some .int), Cond.constant RJ6 265 (1431655765), Cond.constant RJ6 266 (858993459), Cond.constant RJ6 267 (252645135), Cond.methodLink RX7 137 yX6_get, Cond.instanceMethod yX6_get, Cond.selects RX6 yX6_get yX6_get, Cond.initialized RX6, Cond.code yX6_get cX6_get 3 (some .int), Cond.fieldLink RX6 9 "TallyLogsModel$Log" "cell" "[I", Cond.fieldLink RX6 15 "TallyLogsModel$Log" "start" "I", Cond.methodLink RX7 140 yX6_many]
def wsX7_produce_r3 : List Cond := [Cond.instanceMethod yX6_many, Cond.selects RX6 yX6_many yX6_many, Cond.code yX6_many cX6_many 1 (some .int), Cond.fieldLink RX6 19 "TallyLogsModel$Log" "end" "I", Cond.methodLink RX7 144 yX6_add, Cond.instanceMethod yX6_add, Cond.selects RX6 yX6_add yX6_add, Cond.code yX6_add cX6_add 10 none, Cond.methodLink RX6 28 yX6_many, Cond.methodLink RX7 125 yX7_rise, Cond.instanceMethod yX7_rise, Cond.selects RX7 yX7_rise yX7_rise, Cond.code yX7_rise cX7_rise 5 none, Cond.constant RX7 101 (2147483647), Cond.methodLink RX7 105 Lib.Math.min.name, Cond.static Lib.Math.min.name, Cond.initialized "java/lang/Math", Cond.code Lib.Math.min.name Lib.Math.min.code 2 (some .int), Cond.fieldLink RX7 109 "TallyLogsModel$Log" "high" "I", Cond.methodLink RX7 102 yX7_known, Cond.instanceMethod yX7_known, Cond.selects RX7 yX7_known yX7_known, Cond.code yX7_known cX7_known 3 (some .int), Cond.fieldLink RX7 92 "TallyLogsModel$Log" "known" "I"]
def wsX7_produce : List Cond := .code yX7_produce cX7_produce 12 (some .int) :: ((wsX7_produce_r1 ++ (wsX7_produce_r2 ++ wsX7_produce_r3)) ++ wsX70 ++ wsX60)
def wsX7_safe : List Cond := .code yX7_safe cX7_safe 4 (some .int) :: ([.fieldLink RX7 109 "TallyLogsModel$Log" "high" "I", .methodLink RX7 82 yX7_isThere, .instanceMethod yX7_isThere, .selects RX7 yX7_isThere yX7_isThere, .initialized RX7, .code yX7_isThere cX7_isThere 2 (some .boolean), .constantLong RX7 80 (3), .fieldLink RX7 14 "TallyLogsModel" "there" "[Z", .methodLink RX7 76 yX7_in, .static yX7_in, .code yX7_in cX7_in 6 (some .boolean), .methodLink RX7 95 yX7_own, .instanceMethod yX7_own, .selects RX7 yX7_own yX7_own, .code yX7_own cX7_own 2 (some (.object "TallyLogsModel$Log")), .fieldLink RX7 22 "TallyLogsModel" "leader" "[I", .fieldLink RX7 11 "TallyLogsModel" "log" "[[LTallyLogsModel$Log;", .methodLink RX7 86 yX7_isUp, .instanceMethod yX7_isUp, .selects RX7 yX7_isUp yX7_isUp, .code yX7_isUp cX7_isUp 2 (some .boolean), .constantLong RX7 74 (4), .fieldLink RX7 61 "TallyLogsModel" "up" "I"] ++ wsX60 ++ wsX70)
def wsX7_follow_r1 : List Cond := [Cond.fieldLink RX7 22 "TallyLogsModel" "leader" "[I", Cond.fieldLink RX7 11 "TallyLogsModel" "log" "[[LTallyLogsModel$Log;", Cond.fieldLink RX7 89 "TallyLogsModel$Log" "end" "I", Cond.fieldLink RX7 134 "TallyLogsModel$Log" "start" "I", Cond.methodLink RX7 155 Lib.Math.max.name, Cond.static Lib.Math.max.name, Cond.initialized "java/lang/Math", Cond.code Lib.Math.max.name Lib.Math.max.code 2 (some .int), Cond.fieldLink RX7 158 "TallyLogsModel$Log" "flushed" "I", Cond.methodLink RX7 105 Lib.Math.min.name, Cond.static Lib.Math.min.name, Cond.code Lib.Math.min.name Lib.Math.min.code 2 (some .int), Cond.fieldLink RX7 92 "TallyLogsModel$Log" "known" "I", Cond.fieldLink RX7 119 "TallyLogsModel" "now" "I", Cond.fieldLink RX7 122 "TallyLogsModel$Log" "caught" "I", Cond.fieldLink RX7 109 "TallyLogsModel$Log" "high" "I", Cond.fieldLink RX7 31 "TallyLogsModel" "step" "[I", Cond.methodLink RX7 148 yX7_isReplica, Cond.instanceMethod yX7_isReplica, Cond.selects RX7 yX7_isReplica yX7_isReplica, Cond.initialized RX7, Cond.code yX7_isReplica cX7_isReplica 3 (some .boolean), Cond.constantLong RX7 74 (4), Cond.fieldLink RX7 18 "TallyLogsModel" "replicas" "[I"]
def wsX7_follow_r2 : List Cond := [Cond.methodLink RX7 82 yX7_isThere, Cond.instanceMethod yX7_isThere, Cond.selects RX7 yX7_isThere yX7_isThere, Cond.code yX7_isThere cX7_isThere 2 (some .boolean), Cond.constantLong RX7 80 (3), Cond.fieldLink RX7 14 "TallyLogsModel" "there" "[Z", Cond.methodLink RX7 76 yX7_in, Cond.static yX7_in, Cond.code yX7_in cX7_in 6 (some .boolean), Cond.methodLink RX7 86 yX7_isUp, Cond.instanceMethod yX7_isUp, Cond.selects RX7 yX7_isUp yX7_isUp, Cond.code yX7_isUp cX7_isUp 2 (some .boolean), Cond.fieldLink RX7 61 "TallyLogsModel" "up" "I", Cond.methodLink RX7 95 yX7_own, Cond.instanceMethod yX7_own, Cond.selects RX7 yX7_own yX7_own, Cond.code yX7_own cX7_own 2 (some (.object "TallyLogsModel$Log")), Cond.methodLink RX7 152 yX6_from, Cond.instanceMethod yX6_from, Cond.selects RX6 yX6_from yX6_from, Cond.initialized RX6, Cond.code yX6_from cX6_from 2 none, Cond.fieldLink RX6 15 "TallyLogsModel$Log" "start" "I"]
def wsX7_follow_r3 : List Cond := [Cond.fieldLink RX6 19 "TallyLogsModel$Log" "end" "I", Cond.fieldLink RX6 9 "TallyLogsModel$Log" "cell" "[I", Cond.methodLink RX6 22 arraycopyName, Cond.native arraycopyName, Cond.static arraycopyName, Cond.initialized "java/lang/System", Cond.methodLink RX7 137 yX6_get, Cond.instanceMethod yX6_get, Cond.selects RX6 yX6_get yX6_get, Cond.code yX6_get cX6_get 3 (some .int), Cond.methodLink RX7 125 yX7_rise, Cond.instanceMethod yX7_rise, Cond.selects RX7 yX7_rise yX7_rise, Cond.code yX7_rise cX7_rise 5 none, Cond.constant RX7 101 (2147483647), Cond.methodLink RX7 102 yX7_known, Cond.instanceMethod yX7_known, Cond.selects RX7 yX7_known yX7_known, Cond.code yX7_known cX7_known 3 (some .int), Cond.methodLink RX7 161 yX6_take, Cond.instanceMethod yX6_take, Cond.selects RX6 yX6_take yX6_take, Cond.code yX6_take cX6_take 3 none, Cond.methodLink RX6 28 yX6_many]
def wsX7_follow_r4 : List Cond := [Cond.instanceMethod yX6_many, Cond.selects RX6 yX6_many yX6_many, Cond.code yX6_many cX6_many 1 (some .int)]
def wsX7_follow : List Cond := .code yX7_follow cX7_follow 7 (some .int) :: ((wsX7_follow_r1 ++ (wsX7_follow_r2 ++ (wsX7_follow_r3 ++ wsX7_follow_r4))) ++ wsX70 ++ wsX60)
def wsX7_begin : List Cond := .code yX7_begin cX7_begin 3 (some .int) :: ([.fieldLink RX7 34 "TallyLogsModel" "generation" "[I", .fieldLink RX7 37 "TallyLogsModel" "mode" "[I", .fieldLink RX7 40 "TallyLogsModel" "bound" "[I", .methodLink RX7 131 yX7_isHandle, .static yX7_isHandle, .initialized RX7, .code yX7_isHandle cX7_isHandle 1 (some .boolean)] ++ wsX70)
def wsX7_finish : List Cond := .code yX7_finish cX7_finish 4 (some .int) :: ([.fieldLink RX7 34 "TallyLogsModel" "generation" "[I", .fieldLink RX7 37 "TallyLogsModel" "mode" "[I", .fieldLink RX7 43 "TallyLogsModel" "endGeneration" "[I", .fieldLink RX7 46 "TallyLogsModel" "endKind" "[I", .fieldLink RX7 40 "TallyLogsModel" "bound" "[I", .methodLink RX7 131 yX7_isHandle, .static yX7_isHandle, .initialized RX7, .code yX7_isHandle cX7_isHandle 1 (some .boolean), .methodLink RX7 112 yJ6_bitCount_0f7a4, .static yJ6_bitCount_0f7a4, .initialized RJ6, .code yJ6_bitCount_0f7a4 cJ6_bitCount_0f7a4 1 (some .int), .constant RJ6 265 (1431655765), .constant RJ6 266 (858993459), .constant RJ6 267 (252645135)] ++ wsX70)
def wsX7_settle_r1 : List Cond := [Cond.constantLong RX7 129 (5), Cond.fieldLink RX7 37 "TallyLogsModel" "mode" "[I", Cond.fieldLink RX7 40 "TallyLogsModel" "bound" "[I", Cond.fieldLink RX7 25 "TallyLogsModel" "epoch" "[I", Cond.fieldLink RX7 46 "TallyLogsModel" "endKind" "[I", Cond.fieldLink RX7 43 "TallyLogsModel" "endGeneration" "[I", Cond.methodLink RX7 76 yX7_in, Cond.static yX7_in, Cond.initialized RX7, Cond.code yX7_in cX7_in 6 (some .boolean), Cond.methodLink RX7 95 yX7_own, Cond.instanceMethod yX7_own, Cond.selects RX7 yX7_own yX7_own, Cond.code yX7_own cX7_own 2 (some (.object "TallyLogsModel$Log")), Cond.fieldLink RX7 22 "TallyLogsModel" "leader" "[I", Cond.fieldLink RX7 11 "TallyLogsModel" "log" "[[LTallyLogsModel$Log;", Cond.methodLink RX7 86 yX7_isUp, Cond.instanceMethod yX7_isUp, Cond.selects RX7 yX7_isUp yX7_isUp, Cond.code yX7_isUp cX7_isUp 2 (some .boolean), Cond.constantLong RX7 74 (4), Cond.fieldLink RX7 61 "TallyLogsModel" "up" "I", Cond.methodLink RX7 140 yX6_many, Cond.instanceMethod yX6_many]
def wsX7_settle_r2 : List Cond := [Cond.selects RX6 yX6_many yX6_many, Cond.initialized RX6, Cond.code yX6_many cX6_many 1 (some .int), Cond.fieldLink RX6 19 "TallyLogsModel$Log" "end" "I", Cond.fieldLink RX6 15 "TallyLogsModel$Log" "start" "I", Cond.methodLink RX7 144 yX6_add, Cond.instanceMethod yX6_add, Cond.selects RX6 yX6_add yX6_add, Cond.code yX6_add cX6_add 10 none, Cond.fieldLink RX6 9 "TallyLogsModel$Log" "cell" "[I", Cond.methodLink RX6 28 yX6_many, Cond.methodLink RX7 125 yX7_rise, Cond.instanceMethod yX7_rise, Cond.selects RX7 yX7_rise yX7_rise, Cond.code yX7_rise cX7_rise 5 none, Cond.constant RX7 101 (2147483647), Cond.fieldLink RX7 31 "TallyLogsModel" "step" "[I", Cond.methodLink RX7 105 Lib.Math.min.name, Cond.static Lib.Math.min.name, Cond.initialized "java/lang/Math", Cond.code Lib.Math.min.name Lib.Math.min.code 2 (some .int), Cond.fieldLink RX7 109 "TallyLogsModel$Log" "high" "I", Cond.methodLink RX7 102 yX7_known, Cond.instanceMethod yX7_known]
def wsX7_settle_r3 : List Cond := [Cond.selects RX7 yX7_known yX7_known, Cond.code yX7_known cX7_known 3 (some .int), Cond.fieldLink RX7 89 "TallyLogsModel$Log" "end" "I", Cond.fieldLink RX7 92 "TallyLogsModel$Log" "known" "I", Cond.methodLink RX7 112 yJ6_bitCount_0f7a4, Cond.static yJ6_bitCount_0f7a4, Cond.initialized RJ6, Cond.code yJ6_bitCount_0f7a4 cJ6_bitCount_0f7a4 1 (some .int), Cond.constant RJ6 265 (1431655765), Cond.constant RJ6 266 (858993459), Cond.constant RJ6 267 (252645135)]
def wsX7_settle : List Cond := .code yX7_settle cX7_settle 4 (some .int) :: ((wsX7_settle_r1 ++ (wsX7_settle_r2 ++ wsX7_settle_r3)) ++ wsX70 ++ wsX60)
def wsX7_endOf : List Cond := .code yX7_endOf cX7_endOf 3 (some .int) :: ([.fieldLink RX7 89 "TallyLogsModel$Log" "end" "I", .methodLink RX7 137 yX6_get, .instanceMethod yX6_get, .selects RX6 yX6_get yX6_get, .initialized RX6, .code yX6_get cX6_get 3 (some .int), .fieldLink RX6 9 "TallyLogsModel$Log" "cell" "[I", .fieldLink RX6 15 "TallyLogsModel$Log" "start" "I"] ++ wsX60)
def wsX7_firstOpen : List Cond := .code yX7_firstOpen cX7_firstOpen 2 (some .int) :: ([.fieldLink RX7 134 "TallyLogsModel$Log" "start" "I", .fieldLink RX7 89 "TallyLogsModel$Log" "end" "I", .methodLink RX7 137 yX6_get, .instanceMethod yX6_get, .selects RX6 yX6_get yX6_get, .initialized RX6, .code yX6_get cX6_get 3 (some .int), .fieldLink RX6 9 "TallyLogsModel$Log" "cell" "[I", .fieldLink RX6 15 "TallyLogsModel$Log" "start" "I", .methodLink RX7 165 yX7_endOf, .static yX7_endOf, .initialized RX7, .code yX7_endOf cX7_endOf 3 (some .int)] ++ wsX60)
def wsX7_consume_r1 : List Cond := [Cond.fieldLink RX7 134 "TallyLogsModel$Log" "start" "I", Cond.fieldLink RX7 109 "TallyLogsModel$Log" "high" "I", Cond.methodLink RX7 105 Lib.Math.min.name, Cond.static Lib.Math.min.name, Cond.initialized "java/lang/Math", Cond.code Lib.Math.min.name Lib.Math.min.code 2 (some .int), Cond.fieldLink RX7 58 "TallyLogsModel" "seen" "[I", Cond.methodLink RX7 82 yX7_isThere, Cond.instanceMethod yX7_isThere, Cond.selects RX7 yX7_isThere yX7_isThere, Cond.initialized RX7, Cond.code yX7_isThere cX7_isThere 2 (some .boolean), Cond.constantLong RX7 80 (3), Cond.fieldLink RX7 14 "TallyLogsModel" "there" "[Z", Cond.methodLink RX7 76 yX7_in, Cond.static yX7_in, Cond.code yX7_in cX7_in 6 (some .boolean), Cond.methodLink RX7 95 yX7_own, Cond.instanceMethod yX7_own, Cond.selects RX7 yX7_own yX7_own, Cond.code yX7_own cX7_own 2 (some (.object "TallyLogsModel$Log")), Cond.fieldLink RX7 22 "TallyLogsModel" "leader" "[I", Cond.fieldLink RX7 11 "TallyLogsModel" "log" "[[LTallyLogsModel$Log;", Cond.methodLink RX7 86 yX7_isUp]
def wsX7_consume_r2 : List Cond := [Cond.instanceMethod yX7_isUp, Cond.selects RX7 yX7_isUp yX7_isUp, Cond.code yX7_isUp cX7_isUp 2 (some .boolean), Cond.constantLong RX7 74 (4), Cond.fieldLink RX7 61 "TallyLogsModel" "up" "I", Cond.methodLink RX7 169 yX7_firstOpen, Cond.static yX7_firstOpen, Cond.code yX7_firstOpen cX7_firstOpen 2 (some .int), Cond.fieldLink RX7 89 "TallyLogsModel$Log" "end" "I", Cond.methodLink RX7 137 yX6_get, Cond.instanceMethod yX6_get, Cond.selects RX6 yX6_get yX6_get, Cond.initialized RX6, Cond.code yX6_get cX6_get 3 (some .int), Cond.fieldLink RX6 9 "TallyLogsModel$Log" "cell" "[I", Cond.fieldLink RX6 15 "TallyLogsModel$Log" "start" "I", Cond.methodLink RX7 165 yX7_endOf, Cond.static yX7_endOf, Cond.code yX7_endOf cX7_endOf 3 (some .int)]
def wsX7_consume : List Cond := .code yX7_consume cX7_consume 8 (some .int) :: ((wsX7_consume_r1 ++ wsX7_consume_r2) ++ wsX60 ++ wsX70)
def wsX7_seen : List Cond := .code yX7_seen cX7_seen 2 (some .int) :: ([.constantLong RX7 129 (5), .fieldLink RX7 58 "TallyLogsModel" "seen" "[I", .methodLink RX7 76 yX7_in, .static yX7_in, .initialized RX7, .code yX7_in cX7_in 6 (some .boolean)] ++ wsX70)
def wsX7_member : List Cond := .code yX7_member cX7_member 3 (some .int) :: ([.constantLong RX7 80 (3), .constantLong RX7 173 (7), .fieldLink RX7 49 "TallyLogsModel" "members" "[I", .fieldLink RX7 52 "TallyLogsModel" "round" "[I", .methodLink RX7 76 yX7_in, .static yX7_in, .initialized RX7, .code yX7_in cX7_in 6 (some .boolean)] ++ wsX70)
def wsX7_owner : List Cond := .code yX7_owner cX7_owner 6 (some .int) :: ([.constantLong RX7 80 (3), .fieldLink RX7 49 "TallyLogsModel" "members" "[I", .fieldLink RX7 14 "TallyLogsModel" "there" "[Z", .methodLink RX7 76 yX7_in, .static yX7_in, .initialized RX7, .code yX7_in cX7_in 6 (some .boolean), .methodLink RX7 82 yX7_isThere, .instanceMethod yX7_isThere, .selects RX7 yX7_isThere yX7_isThere, .code yX7_isThere cX7_isThere 2 (some .boolean), .methodLink RX7 112 yJ6_bitCount_0f7a4, .static yJ6_bitCount_0f7a4, .initialized RJ6, .code yJ6_bitCount_0f7a4 cJ6_bitCount_0f7a4 1 (some .int), .constant RJ6 265 (1431655765), .constant RJ6 266 (858993459), .constant RJ6 267 (252645135)] ++ wsX70)
def wsX7_move_r1 : List Cond := [Cond.constantLong RX7 80 (3), Cond.constantLong RX7 173 (7), Cond.fieldLink RX7 52 "TallyLogsModel" "round" "[I", Cond.fieldLink RX7 55 "TallyLogsModel" "position" "[I", Cond.methodLink RX7 76 yX7_in, Cond.static yX7_in, Cond.initialized RX7, Cond.code yX7_in cX7_in 6 (some .boolean), Cond.methodLink RX7 82 yX7_isThere, Cond.instanceMethod yX7_isThere, Cond.selects RX7 yX7_isThere yX7_isThere, Cond.code yX7_isThere cX7_isThere 2 (some .boolean), Cond.fieldLink RX7 14 "TallyLogsModel" "there" "[Z", Cond.methodLink RX7 175 yX7_owner, Cond.instanceMethod yX7_owner, Cond.selects RX7 yX7_owner yX7_owner, Cond.code yX7_owner cX7_owner 6 (some .int), Cond.fieldLink RX7 49 "TallyLogsModel" "members" "[I", Cond.methodLink RX7 112 yJ6_bitCount_0f7a4, Cond.static yJ6_bitCount_0f7a4, Cond.initialized RJ6, Cond.code yJ6_bitCount_0f7a4 cJ6_bitCount_0f7a4 1 (some .int), Cond.constant RJ6 265 (1431655765), Cond.constant RJ6 266 (858993459)]
def wsX7_move_r2 : List Cond := [Cond.constant RJ6 267 (252645135)]
def wsX7_move : List Cond := .code yX7_move cX7_move 6 (some .int) :: ((wsX7_move_r1 ++ wsX7_move_r2) ++ wsX70)
def wsX7_position : List Cond := .code yX7_position cX7_position 3 (some .int) :: ([.constantLong RX7 80 (3), .fieldLink RX7 55 "TallyLogsModel" "position" "[I", .methodLink RX7 76 yX7_in, .static yX7_in, .initialized RX7, .code yX7_in cX7_in 6 (some .boolean), .methodLink RX7 82 yX7_isThere, .instanceMethod yX7_isThere, .selects RX7 yX7_isThere yX7_isThere, .code yX7_isThere cX7_isThere 2 (some .boolean), .fieldLink RX7 14 "TallyLogsModel" "there" "[Z"] ++ wsX70)
def wsX7_tick_r1 : List Cond := [Cond.constantLong RX7 178 (50), Cond.fieldLink RX7 119 "TallyLogsModel" "now" "I", Cond.fieldLink RX7 14 "TallyLogsModel" "there" "[Z", Cond.fieldLink RX7 31 "TallyLogsModel" "step" "[I", Cond.fieldLink RX7 22 "TallyLogsModel" "leader" "[I", Cond.fieldLink RX7 11 "TallyLogsModel" "log" "[[LTallyLogsModel$Log;", Cond.fieldLink RX7 122 "TallyLogsModel$Log" "caught" "I", Cond.methodLink RX7 76 yX7_in, Cond.static yX7_in, Cond.initialized RX7, Cond.code yX7_in cX7_in 6 (some .boolean), Cond.methodLink RX7 95 yX7_own, Cond.instanceMethod yX7_own, Cond.selects RX7 yX7_own yX7_own, Cond.code yX7_own cX7_own 2 (some (.object "TallyLogsModel$Log")), Cond.methodLink RX7 86 yX7_isUp, Cond.instanceMethod yX7_isUp, Cond.selects RX7 yX7_isUp yX7_isUp, Cond.code yX7_isUp cX7_isUp 2 (some .boolean), Cond.constantLong RX7 74 (4), Cond.fieldLink RX7 61 "TallyLogsModel" "up" "I", Cond.methodLink RX7 125 yX7_rise, Cond.instanceMethod yX7_rise, Cond.selects RX7 yX7_rise yX7_rise]
def wsX7_tick_r2 : List Cond := [Cond.code yX7_rise cX7_rise 5 none, Cond.constant RX7 101 (2147483647), Cond.methodLink RX7 105 Lib.Math.min.name, Cond.static Lib.Math.min.name, Cond.initialized "java/lang/Math", Cond.code Lib.Math.min.name Lib.Math.min.code 2 (some .int), Cond.fieldLink RX7 109 "TallyLogsModel$Log" "high" "I", Cond.methodLink RX7 102 yX7_known, Cond.instanceMethod yX7_known, Cond.selects RX7 yX7_known yX7_known, Cond.code yX7_known cX7_known 3 (some .int), Cond.fieldLink RX7 89 "TallyLogsModel$Log" "end" "I", Cond.fieldLink RX7 92 "TallyLogsModel$Log" "known" "I"]
def wsX7_tick : List Cond := .code yX7_tick cX7_tick 5 (some .int) :: ((wsX7_tick_r1 ++ wsX7_tick_r2) ++ wsX70 ++ wsX60)
def wsX7_flush : List Cond := .code yX7_flush cX7_flush 5 (some .int) :: ([.fieldLink RX7 11 "TallyLogsModel" "log" "[[LTallyLogsModel$Log;", .fieldLink RX7 89 "TallyLogsModel$Log" "end" "I", .fieldLink RX7 158 "TallyLogsModel$Log" "flushed" "I", .methodLink RX7 148 yX7_isReplica, .instanceMethod yX7_isReplica, .selects RX7 yX7_isReplica yX7_isReplica, .initialized RX7, .code yX7_isReplica cX7_isReplica 3 (some .boolean), .constantLong RX7 74 (4), .fieldLink RX7 18 "TallyLogsModel" "replicas" "[I", .methodLink RX7 82 yX7_isThere, .instanceMethod yX7_isThere, .selects RX7 yX7_isThere yX7_isThere, .code yX7_isThere cX7_isThere 2 (some .boolean), .constantLong RX7 80 (3), .fieldLink RX7 14 "TallyLogsModel" "there" "[Z", .methodLink RX7 76 yX7_in, .static yX7_in, .code yX7_in cX7_in 6 (some .boolean), .methodLink RX7 86 yX7_isUp, .instanceMethod yX7_isUp, .selects RX7 yX7_isUp yX7_isUp, .code yX7_isUp cX7_isUp 2 (some .boolean), .fieldLink RX7 61 "TallyLogsModel" "up" "I"] ++ wsX70 ++ wsX60)
def wsX7_crash_r1 : List Cond := [Cond.fieldLink RX7 61 "TallyLogsModel" "up" "I", Cond.fieldLink RX7 14 "TallyLogsModel" "there" "[Z", Cond.fieldLink RX7 18 "TallyLogsModel" "replicas" "[I", Cond.fieldLink RX7 11 "TallyLogsModel" "log" "[[LTallyLogsModel$Log;", Cond.fieldLink RX7 89 "TallyLogsModel$Log" "end" "I", Cond.fieldLink RX7 158 "TallyLogsModel$Log" "flushed" "I", Cond.methodLink RX7 180 Lib.MathLoose.min_long.x, Cond.static Lib.MathLoose.min_long.x, Cond.initialized "java/lang/Math", Cond.code Lib.MathLoose.min_long.x Lib.MathLoose.min_long.code 4 (some .long), Cond.fieldLink RX7 109 "TallyLogsModel$Log" "high" "I", Cond.methodLink RX7 105 Lib.Math.min.name, Cond.static Lib.Math.min.name, Cond.code Lib.Math.min.name Lib.Math.min.code 2 (some .int), Cond.fieldLink RX7 22 "TallyLogsModel" "leader" "[I", Cond.fieldLink RX7 31 "TallyLogsModel" "step" "[I", Cond.methodLink RX7 86 yX7_isUp, Cond.instanceMethod yX7_isUp, Cond.selects RX7 yX7_isUp yX7_isUp, Cond.initialized RX7, Cond.code yX7_isUp cX7_isUp 2 (some .boolean), Cond.constantLong RX7 74 (4), Cond.methodLink RX7 76 yX7_in, Cond.static yX7_in]
def wsX7_crash_r2 : List Cond := [Cond.code yX7_in cX7_in 6 (some .boolean), Cond.methodLink RX7 125 yX7_rise, Cond.instanceMethod yX7_rise, Cond.selects RX7 yX7_rise yX7_rise, Cond.code yX7_rise cX7_rise 5 none, Cond.constant RX7 101 (2147483647), Cond.methodLink RX7 95 yX7_own, Cond.instanceMethod yX7_own, Cond.selects RX7 yX7_own yX7_own, Cond.code yX7_own cX7_own 2 (some (.object "TallyLogsModel$Log")), Cond.methodLink RX7 102 yX7_known, Cond.instanceMethod yX7_known, Cond.selects RX7 yX7_known yX7_known, Cond.code yX7_known cX7_known 3 (some .int), Cond.fieldLink RX7 92 "TallyLogsModel$Log" "known" "I"]
def wsX7_crash : List Cond := .code yX7_crash cX7_crash 6 (some .int) :: ((wsX7_crash_r1 ++ wsX7_crash_r2) ++ wsX70 ++ wsX60)
def wsX7_restart : List Cond := .code yX7_restart cX7_restart 3 (some .int) :: ([.constantLong RX7 74 (4), .fieldLink RX7 61 "TallyLogsModel" "up" "I", .fieldLink RX7 11 "TallyLogsModel" "log" "[[LTallyLogsModel$Log;", .fieldLink RX7 92 "TallyLogsModel$Log" "known" "I", .methodLink RX7 76 yX7_in, .static yX7_in, .initialized RX7, .code yX7_in cX7_in 6 (some .boolean), .methodLink RX7 86 yX7_isUp, .instanceMethod yX7_isUp, .selects RX7 yX7_isUp yX7_isUp, .code yX7_isUp cX7_isUp 2 (some .boolean)] ++ wsX70 ++ wsX60)
def wsX7_trim_r1 : List Cond := [Cond.fieldLink RX7 134 "TallyLogsModel$Log" "start" "I", Cond.fieldLink RX7 109 "TallyLogsModel$Log" "high" "I", Cond.fieldLink RX7 158 "TallyLogsModel$Log" "flushed" "I", Cond.methodLink RX7 155 Lib.Math.max.name, Cond.static Lib.Math.max.name, Cond.initialized "java/lang/Math", Cond.code Lib.Math.max.name Lib.Math.max.code 2 (some .int), Cond.methodLink RX7 82 yX7_isThere, Cond.instanceMethod yX7_isThere, Cond.selects RX7 yX7_isThere yX7_isThere, Cond.initialized RX7, Cond.code yX7_isThere cX7_isThere 2 (some .boolean), Cond.constantLong RX7 80 (3), Cond.fieldLink RX7 14 "TallyLogsModel" "there" "[Z", Cond.methodLink RX7 76 yX7_in, Cond.static yX7_in, Cond.code yX7_in cX7_in 6 (some .boolean), Cond.methodLink RX7 95 yX7_own, Cond.instanceMethod yX7_own, Cond.selects RX7 yX7_own yX7_own, Cond.code yX7_own cX7_own 2 (some (.object "TallyLogsModel$Log")), Cond.fieldLink RX7 22 "TallyLogsModel" "leader" "[I", Cond.fieldLink RX7 11 "TallyLogsModel" "log" "[[LTallyLogsModel$Log;", Cond.methodLink RX7 86 yX7_isUp]
def wsX7_trim_r2 : List Cond := [Cond.instanceMethod yX7_isUp, Cond.selects RX7 yX7_isUp yX7_isUp, Cond.code yX7_isUp cX7_isUp 2 (some .boolean), Cond.constantLong RX7 74 (4), Cond.fieldLink RX7 61 "TallyLogsModel" "up" "I", Cond.methodLink RX7 152 yX6_from, Cond.instanceMethod yX6_from, Cond.selects RX6 yX6_from yX6_from, Cond.initialized RX6, Cond.code yX6_from cX6_from 2 none, Cond.fieldLink RX6 15 "TallyLogsModel$Log" "start" "I", Cond.fieldLink RX6 19 "TallyLogsModel$Log" "end" "I", Cond.fieldLink RX6 9 "TallyLogsModel$Log" "cell" "[I", Cond.methodLink RX6 22 arraycopyName, Cond.native arraycopyName, Cond.static arraycopyName, Cond.initialized "java/lang/System", Cond.methodLink RX7 140 yX6_many, Cond.instanceMethod yX6_many, Cond.selects RX6 yX6_many yX6_many, Cond.code yX6_many cX6_many 1 (some .int)]
def wsX7_trim : List Cond := .code yX7_trim cX7_trim 4 (some .int) :: ((wsX7_trim_r1 ++ wsX7_trim_r2) ++ wsX60 ++ wsX70)
def wsX7_log_r1 : List Cond := [Cond.constantLong RX7 129 (5), Cond.fieldLink RX7 11 "TallyLogsModel" "log" "[[LTallyLogsModel$Log;", Cond.fieldLink RX7 134 "TallyLogsModel$Log" "start" "I", Cond.fieldLink RX7 89 "TallyLogsModel$Log" "end" "I", Cond.fieldLink RX7 109 "TallyLogsModel$Log" "high" "I", Cond.fieldLink RX7 158 "TallyLogsModel$Log" "flushed" "I", Cond.fieldLink RX7 122 "TallyLogsModel$Log" "caught" "I", Cond.methodLink RX7 148 yX7_isReplica, Cond.instanceMethod yX7_isReplica, Cond.selects RX7 yX7_isReplica yX7_isReplica, Cond.initialized RX7, Cond.code yX7_isReplica cX7_isReplica 3 (some .boolean), Cond.constantLong RX7 74 (4), Cond.fieldLink RX7 18 "TallyLogsModel" "replicas" "[I", Cond.methodLink RX7 82 yX7_isThere, Cond.instanceMethod yX7_isThere, Cond.selects RX7 yX7_isThere yX7_isThere, Cond.code yX7_isThere cX7_isThere 2 (some .boolean), Cond.constantLong RX7 80 (3), Cond.fieldLink RX7 14 "TallyLogsModel" "there" "[Z", Cond.methodLink RX7 76 yX7_in, Cond.static yX7_in, Cond.code yX7_in cX7_in 6 (some .boolean), Cond.methodLink RX7 102 yX7_known]
def wsX7_log_r2 : List Cond := [Cond.instanceMethod yX7_known, Cond.selects RX7 yX7_known yX7_known, Cond.code yX7_known cX7_known 3 (some .int), Cond.fieldLink RX7 22 "TallyLogsModel" "leader" "[I", Cond.fieldLink RX7 92 "TallyLogsModel$Log" "known" "I"]
def wsX7_log : List Cond := .code yX7_log cX7_log 5 (some .int) :: ((wsX7_log_r1 ++ wsX7_log_r2) ++ wsX70 ++ wsX60)
def wsX7_record_r1 : List Cond := [Cond.constantLong RX7 183 (6), Cond.fieldLink RX7 11 "TallyLogsModel" "log" "[[LTallyLogsModel$Log;", Cond.fieldLink RX7 134 "TallyLogsModel$Log" "start" "I", Cond.fieldLink RX7 89 "TallyLogsModel$Log" "end" "I", Cond.constantLong RX7 185 (1099511627776), Cond.methodLink RX7 148 yX7_isReplica, Cond.instanceMethod yX7_isReplica, Cond.selects RX7 yX7_isReplica yX7_isReplica, Cond.initialized RX7, Cond.code yX7_isReplica cX7_isReplica 3 (some .boolean), Cond.constantLong RX7 74 (4), Cond.fieldLink RX7 18 "TallyLogsModel" "replicas" "[I", Cond.methodLink RX7 82 yX7_isThere, Cond.instanceMethod yX7_isThere, Cond.selects RX7 yX7_isThere yX7_isThere, Cond.code yX7_isThere cX7_isThere 2 (some .boolean), Cond.constantLong RX7 80 (3), Cond.fieldLink RX7 14 "TallyLogsModel" "there" "[Z", Cond.methodLink RX7 76 yX7_in, Cond.static yX7_in, Cond.code yX7_in cX7_in 6 (some .boolean), Cond.methodLink RX7 137 yX6_get, Cond.instanceMethod yX6_get, Cond.selects RX6 yX6_get yX6_get]
def wsX7_record_r2 : List Cond := [Cond.initialized RX6, Cond.code yX6_get cX6_get 3 (some .int), Cond.fieldLink RX6 9 "TallyLogsModel$Log" "cell" "[I", Cond.fieldLink RX6 15 "TallyLogsModel$Log" "start" "I"]
def wsX7_record : List Cond := .code yX7_record cX7_record 5 (some .long) :: ((wsX7_record_r1 ++ wsX7_record_r2) ++ wsX70 ++ wsX60)
def wsX7_state_r1 : List Cond := [Cond.constantLong RX7 80 (3), Cond.fieldLink RX7 22 "TallyLogsModel" "leader" "[I", Cond.fieldLink RX7 25 "TallyLogsModel" "epoch" "[I", Cond.fieldLink RX7 31 "TallyLogsModel" "step" "[I", Cond.methodLink RX7 82 yX7_isThere, Cond.instanceMethod yX7_isThere, Cond.selects RX7 yX7_isThere yX7_isThere, Cond.initialized RX7, Cond.code yX7_isThere cX7_isThere 2 (some .boolean), Cond.fieldLink RX7 14 "TallyLogsModel" "there" "[Z", Cond.methodLink RX7 76 yX7_in, Cond.static yX7_in, Cond.code yX7_in cX7_in 6 (some .boolean), Cond.methodLink RX7 95 yX7_own, Cond.instanceMethod yX7_own, Cond.selects RX7 yX7_own yX7_own, Cond.code yX7_own cX7_own 2 (some (.object "TallyLogsModel$Log")), Cond.fieldLink RX7 11 "TallyLogsModel" "log" "[[LTallyLogsModel$Log;", Cond.methodLink RX7 86 yX7_isUp, Cond.instanceMethod yX7_isUp, Cond.selects RX7 yX7_isUp yX7_isUp, Cond.code yX7_isUp cX7_isUp 2 (some .boolean), Cond.constantLong RX7 74 (4), Cond.fieldLink RX7 61 "TallyLogsModel" "up" "I"]
def wsX7_state_r2 : List Cond := [Cond.methodLink RX7 169 yX7_firstOpen, Cond.static yX7_firstOpen, Cond.code yX7_firstOpen cX7_firstOpen 2 (some .int), Cond.fieldLink RX7 134 "TallyLogsModel$Log" "start" "I", Cond.fieldLink RX7 89 "TallyLogsModel$Log" "end" "I", Cond.methodLink RX7 137 yX6_get, Cond.instanceMethod yX6_get, Cond.selects RX6 yX6_get yX6_get, Cond.initialized RX6, Cond.code yX6_get cX6_get 3 (some .int), Cond.fieldLink RX6 9 "TallyLogsModel$Log" "cell" "[I", Cond.fieldLink RX6 15 "TallyLogsModel$Log" "start" "I", Cond.methodLink RX7 165 yX7_endOf, Cond.static yX7_endOf, Cond.code yX7_endOf cX7_endOf 3 (some .int)]
def wsX7_state : List Cond := .code yX7_state cX7_state 3 (some .int) :: ((wsX7_state_r1 ++ wsX7_state_r2) ++ wsX70 ++ wsX60)
def wsX7_count : List Cond := .code yX7_count cX7_count 2 (some .int) :: ([.constantLong RX7 173 (7), .fieldLink RX7 119 "TallyLogsModel" "now" "I", .fieldLink RX7 61 "TallyLogsModel" "up" "I", .fieldLink RX7 37 "TallyLogsModel" "mode" "[I", .methodLink RX7 76 yX7_in, .static yX7_in, .initialized RX7, .code yX7_in cX7_in 6 (some .boolean)] ++ wsX70)
def wsJ9_max_7cf53 : List Cond := .code yJ9_max_7cf53 cJ9_max_7cf53 2 (some .int) :: ([])
def wsJ9_min_7cf53 : List Cond := .code yJ9_min_7cf53 cJ9_min_7cf53 2 (some .int) :: ([])
def wsJ9_min_f86c9 : List Cond := .code yJ9_min_f86c9 cJ9_min_f86c9 4 (some .long) :: ([])
abbrev vwCl : List vw_C := [(RX0, TX0, 8), (RX1, TX1, 3), (RX2, TX2, 6), (RX3, TX3, 6), (RX4, TX4, 7), (RX5, TX5, 6), (RX6, TX6, 7), (RX7, TX7, 18)]
end
section
theorem dX0_init_0 : decode cX0_init 0 = .ok (.aload_n 0, 1) := by decide +kernel
theorem dX0_init_1 : decode cX0_init 1 = .ok (.invokespecial 3, 3) := by decide +kernel
theorem dX0_init_4 : decode cX0_init 4 = .ok (.aload_n 0, 1) := by decide +kernel
theorem dX0_init_5 : decode cX0_init 5 = .ok (.iload_n 1, 1) := by decide +kernel
theorem dX0_init_6 : decode cX0_init 6 = .ok (.putfield 9, 3) := by decide +kernel
theorem dX0_init_9 : decode cX0_init 9 = .ok (.aload_n 0, 1) := by decide +kernel
theorem dX0_init_10 : decode cX0_init 10 = .ok (.iconst 0, 1) := by decide +kernel
theorem dX0_init_11 : decode cX0_init 11 = .ok (.putfield 15, 3) := by decide +kernel
theorem dX0_init_14 : decode cX0_init 14 = .ok (.aload_n 0, 1) := by decide +kernel
theorem dX0_init_15 : decode cX0_init 15 = .ok (.iload_n 2, 1) := by decide +kernel
theorem dX0_init_16 : decode cX0_init 16 = .ok (.putfield 18, 3) := by decide +kernel
theorem dX0_init_19 : decode cX0_init 19 = .ok (.aload_n 0, 1) := by decide +kernel
theorem dX0_init_20 : decode cX0_init 20 = .ok (.iload_n 3, 1) := by decide +kernel
theorem dX0_init_21 : decode cX0_init 21 = .ok (.putfield 21, 3) := by decide +kernel
theorem dX0_init_24 : decode cX0_init 24 = .ok (.aload_n 0, 1) := by decide +kernel
theorem dX0_init_25 : decode cX0_init 25 = .ok (.iload 4, 2) := by decide +kernel
theorem dX0_init_27 : decode cX0_init 27 = .ok (.putfield 24, 3) := by decide +kernel
theorem dX0_init_30 : decode cX0_init 30 = .ok (.aload_n 0, 1) := by decide +kernel
theorem dX0_init_31 : decode cX0_init 31 = .ok (.iload 5, 2) := by decide +kernel
theorem dX0_init_33 : decode cX0_init 33 = .ok (.putfield 27, 3) := by decide +kernel
theorem dX0_init_36 : decode cX0_init 36 = .ok (.aload_n 0, 1) := by decide +kernel
theorem dX0_init_37 : decode cX0_init 37 = .ok (.iload 6, 2) := by decide +kernel
theorem dX0_init_39 : decode cX0_init 39 = .ok (.putfield 30, 3) := by decide +kernel
theorem dX0_init_42 : decode cX0_init 42 = .ok (.aload_n 0, 1) := by decide +kernel
theorem dX0_init_43 : decode cX0_init 43 = .ok (.iload 7, 2) := by decide +kernel
theorem dX0_init_45 : decode cX0_init 45 = .ok (.putfield 33, 3) := by decide +kernel
theorem dX0_init_48 : decode cX0_init 48 = .ok (.return_, 1) := by decide +kernel
theorem dX0_init__0 : decode cX0_init_ 0 = .ok (.aload_n 0, 1) := by decide +kernel
theorem dX0_init__1 : decode cX0_init_ 1 = .ok (.invokespecial 3, 3) := by decide +kernel
theorem dX0_init__4 : decode cX0_init_ 4 = .ok (.aload_n 0, 1) := by decide +kernel
theorem dX0_init__5 : decode cX0_init_ 5 = .ok (.iload_n 1, 1) := by decide +kernel
theorem dX0_init__6 : decode cX0_init_ 6 = .ok (.putfield 9, 3) := by decide +kernel
theorem dX0_init__9 : decode cX0_init_ 9 = .ok (.aload_n 0, 1) := by decide +kernel
theorem dX0_init__10 : decode cX0_init_ 10 = .ok (.iload_n 2, 1) := by decide +kernel
theorem dX0_init__11 : decode cX0_init_ 11 = .ok (.putfield 15, 3) := by decide +kernel
theorem dX0_init__14 : decode cX0_init_ 14 = .ok (.aload_n 0, 1) := by decide +kernel
theorem dX0_init__15 : decode cX0_init_ 15 = .ok (.iload_n 3, 1) := by decide +kernel
theorem dX0_init__16 : decode cX0_init_ 16 = .ok (.putfield 18, 3) := by decide +kernel
theorem dX0_init__19 : decode cX0_init_ 19 = .ok (.aload_n 0, 1) := by decide +kernel
theorem dX0_init__20 : decode cX0_init_ 20 = .ok (.iload 4, 2) := by decide +kernel
theorem dX0_init__22 : decode cX0_init_ 22 = .ok (.putfield 21, 3) := by decide +kernel
theorem dX0_init__25 : decode cX0_init_ 25 = .ok (.aload_n 0, 1) := by decide +kernel
theorem dX0_init__26 : decode cX0_init_ 26 = .ok (.iconst (-1), 1) := by decide +kernel
theorem dX0_init__27 : decode cX0_init_ 27 = .ok (.putfield 24, 3) := by decide +kernel
theorem dX0_init__30 : decode cX0_init_ 30 = .ok (.aload_n 0, 1) := by decide +kernel
theorem dX0_init__31 : decode cX0_init_ 31 = .ok (.iconst 0, 1) := by decide +kernel
theorem dX0_init__32 : decode cX0_init_ 32 = .ok (.putfield 27, 3) := by decide +kernel
theorem dX0_init__35 : decode cX0_init_ 35 = .ok (.aload_n 0, 1) := by decide +kernel
theorem dX0_init__36 : decode cX0_init_ 36 = .ok (.iconst 0, 1) := by decide +kernel
theorem dX0_init__37 : decode cX0_init_ 37 = .ok (.putfield 30, 3) := by decide +kernel
theorem dX0_init__40 : decode cX0_init_ 40 = .ok (.aload_n 0, 1) := by decide +kernel
theorem dX0_init__41 : decode cX0_init_ 41 = .ok (.iconst 0, 1) := by decide +kernel
theorem dX0_init__42 : decode cX0_init_ 42 = .ok (.putfield 33, 3) := by decide +kernel
theorem dX0_init__45 : decode cX0_init_ 45 = .ok (.return_, 1) := by decide +kernel
theorem dX0_isDataBy_0 : decode cX0_isDataBy 0 = .ok (.aload_n 0, 1) := by decide +kernel
theorem dX0_isDataBy_1 : decode cX0_isDataBy 1 = .ok (.getfield 15, 3) := by decide +kernel
theorem dX0_isDataBy_4 : decode cX0_isDataBy 4 = .ok (.ifCond .ne 23, 3) := by decide +kernel
theorem dX0_isDataBy_7 : decode cX0_isDataBy 7 = .ok (.aload_n 0, 1) := by decide +kernel
theorem dX0_isDataBy_8 : decode cX0_isDataBy 8 = .ok (.getfield 18, 3) := by decide +kernel
theorem dX0_isDataBy_11 : decode cX0_isDataBy 11 = .ok (.iload_n 1, 1) := by decide +kernel
theorem dX0_isDataBy_12 : decode cX0_isDataBy 12 = .ok (.if_icmp .ne 15, 3) := by decide +kernel
theorem dX0_isDataBy_15 : decode cX0_isDataBy 15 = .ok (.aload_n 0, 1) := by decide +kernel
theorem dX0_isDataBy_16 : decode cX0_isDataBy 16 = .ok (.getfield 21, 3) := by decide +kernel
theorem dX0_isDataBy_19 : decode cX0_isDataBy 19 = .ok (.iload_n 2, 1) := by decide +kernel
theorem dX0_isDataBy_20 : decode cX0_isDataBy 20 = .ok (.if_icmp .ne 7, 3) := by decide +kernel
theorem dX0_isDataBy_23 : decode cX0_isDataBy 23 = .ok (.iconst 1, 1) := by decide +kernel
theorem dX0_isDataBy_24 : decode cX0_isDataBy 24 = .ok (.goto 4, 3) := by decide +kernel
theorem dX0_isDataBy_27 : decode cX0_isDataBy 27 = .ok (.iconst 0, 1) := by decide +kernel
theorem dX0_isDataBy_28 : decode cX0_isDataBy 28 = .ok (.ireturn, 1) := by decide +kernel
theorem dX0_isEndOf_0 : decode cX0_isEndOf 0 = .ok (.aload_n 0, 1) := by decide +kernel
theorem dX0_isEndOf_1 : decode cX0_isEndOf 1 = .ok (.getfield 15, 3) := by decide +kernel
theorem dX0_isEndOf_4 : decode cX0_isEndOf 4 = .ok (.ifCond .eq 29, 3) := by decide +kernel
theorem dX0_isEndOf_7 : decode cX0_isEndOf 7 = .ok (.aload_n 0, 1) := by decide +kernel
theorem dX0_isEndOf_8 : decode cX0_isEndOf 8 = .ok (.getfield 18, 3) := by decide +kernel
theorem dX0_isEndOf_11 : decode cX0_isEndOf 11 = .ok (.aload_n 1, 1) := by decide +kernel
theorem dX0_isEndOf_12 : decode cX0_isEndOf 12 = .ok (.getfield 18, 3) := by decide +kernel
theorem dX0_isEndOf_15 : decode cX0_isEndOf 15 = .ok (.if_icmp .ne 18, 3) := by decide +kernel
theorem dX0_isEndOf_18 : decode cX0_isEndOf 18 = .ok (.aload_n 0, 1) := by decide +kernel
theorem dX0_isEndOf_19 : decode cX0_isEndOf 19 = .ok (.getfield 21, 3) := by decide +kernel
theorem dX0_isEndOf_22 : decode cX0_isEndOf 22 = .ok (.aload_n 1, 1) := by decide +kernel
theorem dX0_isEndOf_23 : decode cX0_isEndOf 23 = .ok (.getfield 21, 3) := by decide +kernel
theorem dX0_isEndOf_26 : decode cX0_isEndOf 26 = .ok (.if_icmp .ne 7, 3) := by decide +kernel
theorem dX0_isEndOf_29 : decode cX0_isEndOf 29 = .ok (.iconst 1, 1) := by decide +kernel
theorem dX0_isEndOf_30 : decode cX0_isEndOf 30 = .ok (.goto 4, 3) := by decide +kernel
theorem dX0_isEndOf_33 : decode cX0_isEndOf 33 = .ok (.iconst 0, 1) := by decide +kernel
theorem dX0_isEndOf_34 : decode cX0_isEndOf 34 = .ok (.ireturn, 1) := by decide +kernel
theorem dX1_init_0 : decode cX1_init 0 = .ok (.aload_n 0, 1) := by decide +kernel
theorem dX1_init_1 : decode cX1_init 1 = .ok (.invokespecial 3, 3) := by decide +kernel
theorem dX1_init_4 : decode cX1_init 4 = .ok (.aload_n 0, 1) := by decide +kernel
theorem dX1_init_5 : decode cX1_init 5 = .ok (.iconst 0, 1) := by decide +kernel
theorem dX1_init_6 : decode cX1_init 6 = .ok (.putfield 9, 3) := by decide +kernel
theorem dX1_init_9 : decode cX1_init 9 = .ok (.aload_n 0, 1) := by decide +kernel
theorem dX1_init_10 : decode cX1_init 10 = .ok (.iconst 0, 1) := by decide +kernel
theorem dX1_init_11 : decode cX1_init 11 = .ok (.putfield 15, 3) := by decide +kernel
theorem dX1_init_14 : decode cX1_init 14 = .ok (.aload_n 0, 1) := by decide +kernel
theorem dX1_init_15 : decode cX1_init 15 = .ok (.iconst 4, 1) := by decide +kernel
theorem dX1_init_16 : decode cX1_init 16 = .ok (.newarray .int, 2) := by decide +kernel
theorem dX1_init_18 : decode cX1_init 18 = .ok (.putfield 18, 3) := by decide +kernel
theorem dX1_init_21 : decode cX1_init 21 = .ok (.return_, 1) := by decide +kernel
set_option maxRecDepth 20000 in
theorem ggX1_memberAt_J6_bitCount_0f7a4 : GoodIn wsX1_memberAt wsJ6_bitCount_0f7a4 := goodIn_r _ [5, 6, 7, 8] (by decide +kernel) (by decide +kernel)
set_option maxRecDepth 20000 in
theorem gX1_memberAt_J6_bitCount_0f7a4 : GoodIn wsX1_memberAt (va_wsS RX1 22 yJ6_bitCount_0f7a4 wsJ6_bitCount_0f7a4) := goodIn_app (goodIn_of _ (by decide +kernel)) ggX1_memberAt_J6_bitCount_0f7a4
set_option maxRecDepth 20000 in
theorem ggX1_memberAt_X5_contains : GoodIn wsX1_memberAt wsX5_contains := goodIn_r _ [11] (by decide +kernel) (by decide +kernel)
set_option maxRecDepth 20000 in
theorem gX1_memberAt_X5_contains_n28 : GoodIn wsX1_memberAt (wsX5_contains) := ggX1_memberAt_X5_contains
theorem dX1_memberAt_0 : decode cX1_memberAt 0 = .ok (.aload_n 0, 1) := by decide +kernel
theorem dX1_memberAt_1 : decode cX1_memberAt 1 = .ok (.getfield 9, 3) := by decide +kernel
theorem dX1_memberAt_4 : decode cX1_memberAt 4 = .ok (.invokestatic 22, 3) := by decide +kernel
theorem dX1_memberAt_7 : decode cX1_memberAt 7 = .ok (.istore_n 2, 1) := by decide +kernel
theorem dX1_memberAt_8 : decode cX1_memberAt 8 = .ok (.iload_n 2, 1) := by decide +kernel
theorem dX1_memberAt_9 : decode cX1_memberAt 9 = .ok (.ifCond .ne 5, 3) := by decide +kernel
theorem dX1_memberAt_12 : decode cX1_memberAt 12 = .ok (.iconst (-1), 1) := by decide +kernel
theorem dX1_memberAt_13 : decode cX1_memberAt 13 = .ok (.ireturn, 1) := by decide +kernel
theorem dX1_memberAt_14 : decode cX1_memberAt 14 = .ok (.iload_n 1, 1) := by decide +kernel
theorem dX1_memberAt_15 : decode cX1_memberAt 15 = .ok (.iload_n 2, 1) := by decide +kernel
theorem dX1_memberAt_16 : decode cX1_memberAt 16 = .ok (.irem, 1) := by decide +kernel
theorem dX1_memberAt_17 : decode cX1_memberAt 17 = .ok (.istore_n 3, 1) := by decide +kernel
theorem dX1_memberAt_18 : decode cX1_memberAt 18 = .ok (.iconst 0, 1) := by decide +kernel
theorem dX1_memberAt_19 : decode cX1_memberAt 19 = .ok (.istore 4, 2) := by decide +kernel
theorem dX1_memberAt_21 : decode cX1_memberAt 21 = .ok (.iload 4, 2) := by decide +kernel
theorem dX1_memberAt_23 : decode cX1_memberAt 23 = .ok (.bipush 8, 2) := by decide +kernel
theorem dX1_memberAt_25 : decode cX1_memberAt 25 = .ok (.if_icmp .ge 34, 3) := by decide +kernel
theorem dX1_memberAt_28 : decode cX1_memberAt 28 = .ok (.aload_n 0, 1) := by decide +kernel
theorem dX1_memberAt_29 : decode cX1_memberAt 29 = .ok (.getfield 9, 3) := by decide +kernel
theorem dX1_memberAt_32 : decode cX1_memberAt 32 = .ok (.iload 4, 2) := by decide +kernel
theorem dX1_memberAt_34 : decode cX1_memberAt 34 = .ok (.invokestatic 28, 3) := by decide +kernel
theorem dX1_memberAt_37 : decode cX1_memberAt 37 = .ok (.ifCond .ne 6, 3) := by decide +kernel
theorem dX1_memberAt_40 : decode cX1_memberAt 40 = .ok (.goto 13, 3) := by decide +kernel
theorem dX1_memberAt_43 : decode cX1_memberAt 43 = .ok (.iload_n 3, 1) := by decide +kernel
theorem dX1_memberAt_44 : decode cX1_memberAt 44 = .ok (.ifCond .ne 6, 3) := by decide +kernel
theorem dX1_memberAt_47 : decode cX1_memberAt 47 = .ok (.iload 4, 2) := by decide +kernel
theorem dX1_memberAt_49 : decode cX1_memberAt 49 = .ok (.ireturn, 1) := by decide +kernel
theorem dX1_memberAt_50 : decode cX1_memberAt 50 = .ok (.iinc 3 (-1), 3) := by decide +kernel
theorem dX1_memberAt_53 : decode cX1_memberAt 53 = .ok (.iinc 4 1, 3) := by decide +kernel
theorem dX1_memberAt_56 : decode cX1_memberAt 56 = .ok (.goto (-35), 3) := by decide +kernel
theorem dX1_memberAt_59 : decode cX1_memberAt 59 = .ok (.iconst (-1), 1) := by decide +kernel
theorem dX1_memberAt_60 : decode cX1_memberAt 60 = .ok (.ireturn, 1) := by decide +kernel
theorem dX1_offsetFor_0 : decode cX1_offsetFor 0 = .ok (.iload_n 1, 1) := by decide +kernel
theorem dX1_offsetFor_1 : decode cX1_offsetFor 1 = .ok (.ifCond .lt 8, 3) := by decide +kernel
theorem dX1_offsetFor_4 : decode cX1_offsetFor 4 = .ok (.iload_n 1, 1) := by decide +kernel
theorem dX1_offsetFor_5 : decode cX1_offsetFor 5 = .ok (.iconst 4, 1) := by decide +kernel
theorem dX1_offsetFor_6 : decode cX1_offsetFor 6 = .ok (.if_icmp .lt 7, 3) := by decide +kernel
theorem dX1_offsetFor_9 : decode cX1_offsetFor 9 = .ok (.iconst 0, 1) := by decide +kernel
theorem dX1_offsetFor_10 : decode cX1_offsetFor 10 = .ok (.goto 9, 3) := by decide +kernel
theorem dX1_offsetFor_13 : decode cX1_offsetFor 13 = .ok (.aload_n 0, 1) := by decide +kernel
theorem dX1_offsetFor_14 : decode cX1_offsetFor 14 = .ok (.getfield 18, 3) := by decide +kernel
theorem dX1_offsetFor_17 : decode cX1_offsetFor 17 = .ok (.iload_n 1, 1) := by decide +kernel
theorem dX1_offsetFor_18 : decode cX1_offsetFor 18 = .ok (.iaload, 1) := by decide +kernel
theorem dX1_offsetFor_19 : decode cX1_offsetFor 19 = .ok (.ireturn, 1) := by decide +kernel
theorem dX1_setOffset_0 : decode cX1_setOffset 0 = .ok (.iload_n 1, 1) := by decide +kernel
theorem dX1_setOffset_1 : decode cX1_setOffset 1 = .ok (.ifCond .lt 15, 3) := by decide +kernel
theorem dX1_setOffset_4 : decode cX1_setOffset 4 = .ok (.iload_n 1, 1) := by decide +kernel
theorem dX1_setOffset_5 : decode cX1_setOffset 5 = .ok (.iconst 4, 1) := by decide +kernel
theorem dX1_setOffset_6 : decode cX1_setOffset 6 = .ok (.if_icmp .ge 10, 3) := by decide +kernel
theorem dX1_setOffset_9 : decode cX1_setOffset 9 = .ok (.aload_n 0, 1) := by decide +kernel
theorem dX1_setOffset_10 : decode cX1_setOffset 10 = .ok (.getfield 18, 3) := by decide +kernel
theorem dX1_setOffset_13 : decode cX1_setOffset 13 = .ok (.iload_n 1, 1) := by decide +kernel
theorem dX1_setOffset_14 : decode cX1_setOffset 14 = .ok (.iload_n 2, 1) := by decide +kernel
theorem dX1_setOffset_15 : decode cX1_setOffset 15 = .ok (.iastore, 1) := by decide +kernel
theorem dX1_setOffset_16 : decode cX1_setOffset 16 = .ok (.return_, 1) := by decide +kernel
set_option maxRecDepth 20000 in
theorem ggX2_init_X5_leastOf : GoodIn wsX2_init wsX5_leastOf := goodIn_r _ [15, 16, 17, 14, 18] (by decide +kernel) (by decide +kernel)
set_option maxRecDepth 20000 in
theorem gX2_init_X5_leastOf_n30 : GoodIn wsX2_init (wsX5_leastOf) := ggX2_init_X5_leastOf
set_option maxRecDepth 20000 in
theorem ggX2_init_X5_contains : GoodIn wsX2_init wsX5_contains := goodIn_r _ [18] (by decide +kernel) (by decide +kernel)
set_option maxRecDepth 20000 in
theorem gX2_init_X5_contains_n37 : GoodIn wsX2_init (wsX5_contains) := ggX2_init_X5_contains
set_option maxRecDepth 20000 in
theorem ggX2_init_X4_init : GoodIn wsX2_init wsX4_init := goodIn_r _ [21, 22, 2, 3, 23, 24, 25, 26, 27, 28, 29, 30, 37, 38, 39, 40, 41, 42, 43] (by decide +kernel) (by decide +kernel)
set_option maxRecDepth 20000 in
theorem gX2_init_X4_init : GoodIn wsX2_init (wsX4_init) := ggX2_init_X4_init
theorem dX2_init_0 : decode cX2_init 0 = .ok (.aload_n 0, 1) := by decide +kernel
theorem dX2_init_1 : decode cX2_init 1 = .ok (.invokespecial 3, 3) := by decide +kernel
theorem dX2_init_4 : decode cX2_init 4 = .ok (.aload_n 0, 1) := by decide +kernel
theorem dX2_init_5 : decode cX2_init 5 = .ok (.iconst 5, 1) := by decide +kernel
theorem dX2_init_6 : decode cX2_init 6 = .ok (.anewarray 9, 3) := by decide +kernel
theorem dX2_init_9 : decode cX2_init 9 = .ok (.putfield 11, 3) := by decide +kernel
theorem dX2_init_12 : decode cX2_init 12 = .ok (.aload_n 0, 1) := by decide +kernel
theorem dX2_init_13 : decode cX2_init 13 = .ok (.iconst 0, 1) := by decide +kernel
theorem dX2_init_14 : decode cX2_init 14 = .ok (.putfield 17, 3) := by decide +kernel
theorem dX2_init_17 : decode cX2_init 17 = .ok (.aload_n 0, 1) := by decide +kernel
theorem dX2_init_18 : decode cX2_init 18 = .ok (.iload_n 1, 1) := by decide +kernel
theorem dX2_init_19 : decode cX2_init 19 = .ok (.putfield 21, 3) := by decide +kernel
theorem dX2_init_22 : decode cX2_init 22 = .ok (.aload_n 0, 1) := by decide +kernel
theorem dX2_init_23 : decode cX2_init 23 = .ok (.iload_n 3, 1) := by decide +kernel
theorem dX2_init_24 : decode cX2_init 24 = .ok (.putfield 24, 3) := by decide +kernel
theorem dX2_init_27 : decode cX2_init 27 = .ok (.aload_n 0, 1) := by decide +kernel
theorem dX2_init_28 : decode cX2_init 28 = .ok (.iload_n 2, 1) := by decide +kernel
theorem dX2_init_29 : decode cX2_init 29 = .ok (.putfield 27, 3) := by decide +kernel
theorem dX2_init_32 : decode cX2_init 32 = .ok (.aload_n 0, 1) := by decide +kernel
theorem dX2_init_33 : decode cX2_init 33 = .ok (.iload_n 2, 1) := by decide +kernel
theorem dX2_init_34 : decode cX2_init 34 = .ok (.invokestatic 30, 3) := by decide +kernel
theorem dX2_init_37 : decode cX2_init 37 = .ok (.putfield 34, 3) := by decide +kernel
theorem dX2_init_40 : decode cX2_init 40 = .ok (.iconst 0, 1) := by decide +kernel
theorem dX2_init_41 : decode cX2_init 41 = .ok (.istore 5, 2) := by decide +kernel
theorem dX2_init_43 : decode cX2_init 43 = .ok (.iload 5, 2) := by decide +kernel
theorem dX2_init_45 : decode cX2_init 45 = .ok (.iconst 5, 1) := by decide +kernel
theorem dX2_init_46 : decode cX2_init 46 = .ok (.if_icmp .ge 38, 3) := by decide +kernel
theorem dX2_init_49 : decode cX2_init 49 = .ok (.aload_n 0, 1) := by decide +kernel
theorem dX2_init_50 : decode cX2_init 50 = .ok (.getfield 11, 3) := by decide +kernel
theorem dX2_init_53 : decode cX2_init 53 = .ok (.iload 5, 2) := by decide +kernel
theorem dX2_init_55 : decode cX2_init 55 = .ok (.iload_n 1, 1) := by decide +kernel
theorem dX2_init_56 : decode cX2_init 56 = .ok (.iload 5, 2) := by decide +kernel
theorem dX2_init_58 : decode cX2_init 58 = .ok (.invokestatic 37, 3) := by decide +kernel
theorem dX2_init_61 : decode cX2_init 61 = .ok (.ifCond .eq 15, 3) := by decide +kernel
theorem dX2_init_64 : decode cX2_init 64 = .ok (.new 9, 3) := by decide +kernel
theorem dX2_init_67 : decode cX2_init 67 = .ok (.dup, 1) := by decide +kernel
theorem dX2_init_68 : decode cX2_init 68 = .ok (.iload 4, 2) := by decide +kernel
theorem dX2_init_70 : decode cX2_init 70 = .ok (.invokespecial 41, 3) := by decide +kernel
theorem dX2_init_73 : decode cX2_init 73 = .ok (.goto 4, 3) := by decide +kernel
theorem dX2_init_76 : decode cX2_init 76 = .ok (.aconst_null, 1) := by decide +kernel
theorem dX2_init_77 : decode cX2_init 77 = .ok (.aastore, 1) := by decide +kernel
theorem dX2_init_78 : decode cX2_init 78 = .ok (.iinc 5 1, 3) := by decide +kernel
theorem dX2_init_81 : decode cX2_init 81 = .ok (.goto (-38), 3) := by decide +kernel
theorem dX2_init_84 : decode cX2_init 84 = .ok (.return_, 1) := by decide +kernel
theorem dX2_replicaAt_0 : decode cX2_replicaAt 0 = .ok (.iload_n 1, 1) := by decide +kernel
theorem dX2_replicaAt_1 : decode cX2_replicaAt 1 = .ok (.ifCond .lt 8, 3) := by decide +kernel
theorem dX2_replicaAt_4 : decode cX2_replicaAt 4 = .ok (.iload_n 1, 1) := by decide +kernel
theorem dX2_replicaAt_5 : decode cX2_replicaAt 5 = .ok (.iconst 5, 1) := by decide +kernel
theorem dX2_replicaAt_6 : decode cX2_replicaAt 6 = .ok (.if_icmp .lt 7, 3) := by decide +kernel
theorem dX2_replicaAt_9 : decode cX2_replicaAt 9 = .ok (.aconst_null, 1) := by decide +kernel
theorem dX2_replicaAt_10 : decode cX2_replicaAt 10 = .ok (.goto 9, 3) := by decide +kernel
theorem dX2_replicaAt_13 : decode cX2_replicaAt 13 = .ok (.aload_n 0, 1) := by decide +kernel
theorem dX2_replicaAt_14 : decode cX2_replicaAt 14 = .ok (.getfield 11, 3) := by decide +kernel
theorem dX2_replicaAt_17 : decode cX2_replicaAt 17 = .ok (.iload_n 1, 1) := by decide +kernel
theorem dX2_replicaAt_18 : decode cX2_replicaAt 18 = .ok (.aaload, 1) := by decide +kernel
theorem dX2_replicaAt_19 : decode cX2_replicaAt 19 = .ok (.areturn, 1) := by decide +kernel
set_option maxRecDepth 20000 in
theorem ggX2_leading_X2_replicaAt : GoodIn wsX2_leading wsX2_replicaAt := goodIn_r _ [6, 7, 8, 9, 10, 11, 12, 13] (by decide +kernel) (by decide +kernel)
set_option maxRecDepth 20000 in
theorem gX2_leading_X2_replicaAt : GoodIn wsX2_leading (wsV RX2 44 RX2 yX2_replicaAt wsX2_replicaAt) := goodIn_app (goodIn_of _ (by decide +kernel)) ggX2_leading_X2_replicaAt
theorem dX2_leading_0 : decode cX2_leading 0 = .ok (.aload_n 0, 1) := by decide +kernel
theorem dX2_leading_1 : decode cX2_leading 1 = .ok (.aload_n 0, 1) := by decide +kernel
theorem dX2_leading_2 : decode cX2_leading 2 = .ok (.getfield 34, 3) := by decide +kernel
theorem dX2_leading_5 : decode cX2_leading 5 = .ok (.invokevirtual 44, 3) := by decide +kernel
theorem dX2_leading_8 : decode cX2_leading 8 = .ok (.areturn, 1) := by decide +kernel
set_option maxRecDepth 20000 in
theorem ggX2_knownEnd_X2_replicaAt : GoodIn wsX2_knownEnd wsX2_replicaAt := goodIn_r _ [8, 9, 10, 11, 12, 13, 14, 15] (by decide +kernel) (by decide +kernel)
set_option maxRecDepth 20000 in
theorem gX2_knownEnd_X2_replicaAt : GoodIn wsX2_knownEnd (wsV RX2 44 RX2 yX2_replicaAt wsX2_replicaAt) := goodIn_app (goodIn_of _ (by decide +kernel)) ggX2_knownEnd_X2_replicaAt
theorem dX2_knownEnd_0 : decode cX2_knownEnd 0 = .ok (.aload_n 0, 1) := by decide +kernel
theorem dX2_knownEnd_1 : decode cX2_knownEnd 1 = .ok (.iload_n 1, 1) := by decide +kernel
theorem dX2_knownEnd_2 : decode cX2_knownEnd 2 = .ok (.invokevirtual 44, 3) := by decide +kernel
theorem dX2_knownEnd_5 : decode cX2_knownEnd 5 = .ok (.astore_n 2, 1) := by decide +kernel
theorem dX2_knownEnd_6 : decode cX2_knownEnd 6 = .ok (.aload_n 2, 1) := by decide +kernel
theorem dX2_knownEnd_7 : decode cX2_knownEnd 7 = .ok (.ifnonnull 5, 3) := by decide +kernel
theorem dX2_knownEnd_10 : decode cX2_knownEnd 10 = .ok (.iconst (-1), 1) := by decide +kernel
theorem dX2_knownEnd_11 : decode cX2_knownEnd 11 = .ok (.ireturn, 1) := by decide +kernel
theorem dX2_knownEnd_12 : decode cX2_knownEnd 12 = .ok (.iload_n 1, 1) := by decide +kernel
theorem dX2_knownEnd_13 : decode cX2_knownEnd 13 = .ok (.aload_n 0, 1) := by decide +kernel
theorem dX2_knownEnd_14 : decode cX2_knownEnd 14 = .ok (.getfield 34, 3) := by decide +kernel
theorem dX2_knownEnd_17 : decode cX2_knownEnd 17 = .ok (.if_icmp .ne 10, 3) := by decide +kernel
theorem dX2_knownEnd_20 : decode cX2_knownEnd 20 = .ok (.aload_n 2, 1) := by decide +kernel
theorem dX2_knownEnd_21 : decode cX2_knownEnd 21 = .ok (.getfield 48, 3) := by decide +kernel
theorem dX2_knownEnd_24 : decode cX2_knownEnd 24 = .ok (.goto 7, 3) := by decide +kernel
theorem dX2_knownEnd_27 : decode cX2_knownEnd 27 = .ok (.aload_n 2, 1) := by decide +kernel
theorem dX2_knownEnd_28 : decode cX2_knownEnd 28 = .ok (.getfield 51, 3) := by decide +kernel
theorem dX2_knownEnd_31 : decode cX2_knownEnd 31 = .ok (.ireturn, 1) := by decide +kernel
set_option maxRecDepth 20000 in
theorem ggX2_raiseHw_X2_leading : GoodIn wsX2_raiseHw wsX2_leading := goodIn_r _ [15, 16, 17, 18, 19, 14, 20, 21, 37, 38, 39, 40, 41, 42] (by decide +kernel) (by decide +kernel)
set_option maxRecDepth 20000 in
theorem gX2_raiseHw_X2_leading : GoodIn wsX2_raiseHw (wsV RX2 54 RX2 yX2_leading wsX2_leading) := goodIn_app (goodIn_of _ (by decide +kernel)) ggX2_raiseHw_X2_leading
set_option maxRecDepth 20000 in
theorem ggX2_raiseHw_X5_contains : GoodIn wsX2_raiseHw wsX5_contains := goodIn_r _ [24] (by decide +kernel) (by decide +kernel)
set_option maxRecDepth 20000 in
theorem gX2_raiseHw_X5_contains_n37 : GoodIn wsX2_raiseHw (wsX5_contains) := ggX2_raiseHw_X5_contains
set_option maxRecDepth 20000 in
theorem ggX2_raiseHw_X2_knownEnd : GoodIn wsX2_raiseHw wsX2_knownEnd := goodIn_r _ [28, 16, 1, 29, 17, 18, 19, 14, 20, 21, 37, 38, 39, 40, 41, 42, 30, 31, 32, 33, 34, 35, 36] (by decide +kernel) (by decide +kernel)
set_option maxRecDepth 20000 in
theorem gX2_raiseHw_X2_knownEnd : GoodIn wsX2_raiseHw (wsV RX2 58 RX2 yX2_knownEnd wsX2_knownEnd) := goodIn_app (goodIn_of _ (by decide +kernel)) ggX2_raiseHw_X2_knownEnd
theorem dX2_raiseHw_0 : decode cX2_raiseHw 0 = .ok (.aload_n 0, 1) := by decide +kernel
theorem dX2_raiseHw_1 : decode cX2_raiseHw 1 = .ok (.invokevirtual 54, 3) := by decide +kernel
theorem dX2_raiseHw_4 : decode cX2_raiseHw 4 = .ok (.astore_n 1, 1) := by decide +kernel
theorem dX2_raiseHw_5 : decode cX2_raiseHw 5 = .ok (.aload_n 1, 1) := by decide +kernel
theorem dX2_raiseHw_6 : decode cX2_raiseHw 6 = .ok (.ifnonnull 4, 3) := by decide +kernel
theorem dX2_raiseHw_9 : decode cX2_raiseHw 9 = .ok (.return_, 1) := by decide +kernel
theorem dX2_raiseHw_10 : decode cX2_raiseHw 10 = .ok (.aload_n 1, 1) := by decide +kernel
theorem dX2_raiseHw_11 : decode cX2_raiseHw 11 = .ok (.getfield 48, 3) := by decide +kernel
theorem dX2_raiseHw_14 : decode cX2_raiseHw 14 = .ok (.istore_n 2, 1) := by decide +kernel
theorem dX2_raiseHw_15 : decode cX2_raiseHw 15 = .ok (.iconst 0, 1) := by decide +kernel
theorem dX2_raiseHw_16 : decode cX2_raiseHw 16 = .ok (.istore_n 3, 1) := by decide +kernel
theorem dX2_raiseHw_17 : decode cX2_raiseHw 17 = .ok (.iload_n 3, 1) := by decide +kernel
theorem dX2_raiseHw_18 : decode cX2_raiseHw 18 = .ok (.iconst 5, 1) := by decide +kernel
theorem dX2_raiseHw_19 : decode cX2_raiseHw 19 = .ok (.if_icmp .ge 30, 3) := by decide +kernel
theorem dX2_raiseHw_22 : decode cX2_raiseHw 22 = .ok (.aload_n 0, 1) := by decide +kernel
theorem dX2_raiseHw_23 : decode cX2_raiseHw 23 = .ok (.getfield 27, 3) := by decide +kernel
theorem dX2_raiseHw_26 : decode cX2_raiseHw 26 = .ok (.iload_n 3, 1) := by decide +kernel
theorem dX2_raiseHw_27 : decode cX2_raiseHw 27 = .ok (.invokestatic 37, 3) := by decide +kernel
theorem dX2_raiseHw_30 : decode cX2_raiseHw 30 = .ok (.ifCond .eq 13, 3) := by decide +kernel
theorem dX2_raiseHw_33 : decode cX2_raiseHw 33 = .ok (.iload_n 2, 1) := by decide +kernel
theorem dX2_raiseHw_34 : decode cX2_raiseHw 34 = .ok (.aload_n 0, 1) := by decide +kernel
theorem dX2_raiseHw_35 : decode cX2_raiseHw 35 = .ok (.iload_n 3, 1) := by decide +kernel
theorem dX2_raiseHw_36 : decode cX2_raiseHw 36 = .ok (.invokevirtual 58, 3) := by decide +kernel
theorem dX2_raiseHw_39 : decode cX2_raiseHw 39 = .ok (.invokestatic 61, 3) := by decide +kernel
theorem dX2_raiseHw_42 : decode cX2_raiseHw 42 = .ok (.istore_n 2, 1) := by decide +kernel
theorem dX2_raiseHw_43 : decode cX2_raiseHw 43 = .ok (.iinc 3 1, 3) := by decide +kernel
theorem dX2_raiseHw_46 : decode cX2_raiseHw 46 = .ok (.goto (-29), 3) := by decide +kernel
theorem dX2_raiseHw_49 : decode cX2_raiseHw 49 = .ok (.aload_n 1, 1) := by decide +kernel
theorem dX2_raiseHw_50 : decode cX2_raiseHw 50 = .ok (.aload_n 1, 1) := by decide +kernel
theorem dX2_raiseHw_51 : decode cX2_raiseHw 51 = .ok (.getfield 66, 3) := by decide +kernel
theorem dX2_raiseHw_54 : decode cX2_raiseHw 54 = .ok (.iload_n 2, 1) := by decide +kernel
theorem dX2_raiseHw_55 : decode cX2_raiseHw 55 = .ok (.invokestatic 69, 3) := by decide +kernel
theorem dX2_raiseHw_58 : decode cX2_raiseHw 58 = .ok (.putfield 66, 3) := by decide +kernel
theorem dX2_raiseHw_61 : decode cX2_raiseHw 61 = .ok (.return_, 1) := by decide +kernel
set_option maxRecDepth 20000 in
theorem ggX2_putLeader_X2_raiseHw : GoodIn wsX2_putLeader wsX2_raiseHw := goodIn_r _ [10, 11, 12, 13, 14, 15, 16, 17, 18, 19, 20, 21, 22, 23, 9, 24, 1, 25, 26, 27, 28, 3, 29, 30, 31, 32, 33, 34, 35, 5, 42, 43, 44, 45, 46, 47, 48, 36, 37, 38, 39, 40, 41] (by decide +kernel) (by decide +kernel)
set_option maxRecDepth 20000 in
theorem gX2_putLeader_X2_raiseHw : GoodIn wsX2_putLeader (wsV RX2 75 RX2 yX2_raiseHw wsX2_raiseHw) := goodIn_app (goodIn_of _ (by decide +kernel)) ggX2_putLeader_X2_raiseHw
theorem dX2_putLeader_0 : decode cX2_putLeader 0 = .ok (.aload_n 0, 1) := by decide +kernel
theorem dX2_putLeader_1 : decode cX2_putLeader 1 = .ok (.iload_n 1, 1) := by decide +kernel
theorem dX2_putLeader_2 : decode cX2_putLeader 2 = .ok (.putfield 34, 3) := by decide +kernel
theorem dX2_putLeader_5 : decode cX2_putLeader 5 = .ok (.aload_n 0, 1) := by decide +kernel
theorem dX2_putLeader_6 : decode cX2_putLeader 6 = .ok (.dup, 1) := by decide +kernel
theorem dX2_putLeader_7 : decode cX2_putLeader 7 = .ok (.getfield 17, 3) := by decide +kernel
theorem dX2_putLeader_10 : decode cX2_putLeader 10 = .ok (.iconst 1, 1) := by decide +kernel
theorem dX2_putLeader_11 : decode cX2_putLeader 11 = .ok (.iadd, 1) := by decide +kernel
theorem dX2_putLeader_12 : decode cX2_putLeader 12 = .ok (.putfield 17, 3) := by decide +kernel
theorem dX2_putLeader_15 : decode cX2_putLeader 15 = .ok (.iconst 0, 1) := by decide +kernel
theorem dX2_putLeader_16 : decode cX2_putLeader 16 = .ok (.istore_n 3, 1) := by decide +kernel
theorem dX2_putLeader_17 : decode cX2_putLeader 17 = .ok (.iload_n 3, 1) := by decide +kernel
theorem dX2_putLeader_18 : decode cX2_putLeader 18 = .ok (.iconst 5, 1) := by decide +kernel
theorem dX2_putLeader_19 : decode cX2_putLeader 19 = .ok (.if_icmp .ge 42, 3) := by decide +kernel
theorem dX2_putLeader_22 : decode cX2_putLeader 22 = .ok (.aload_n 0, 1) := by decide +kernel
theorem dX2_putLeader_23 : decode cX2_putLeader 23 = .ok (.getfield 11, 3) := by decide +kernel
theorem dX2_putLeader_26 : decode cX2_putLeader 26 = .ok (.iload_n 3, 1) := by decide +kernel
theorem dX2_putLeader_27 : decode cX2_putLeader 27 = .ok (.aaload, 1) := by decide +kernel
theorem dX2_putLeader_28 : decode cX2_putLeader 28 = .ok (.astore 4, 2) := by decide +kernel
theorem dX2_putLeader_30 : decode cX2_putLeader 30 = .ok (.aload 4, 2) := by decide +kernel
theorem dX2_putLeader_32 : decode cX2_putLeader 32 = .ok (.ifnonnull 6, 3) := by decide +kernel
theorem dX2_putLeader_35 : decode cX2_putLeader 35 = .ok (.goto 20, 3) := by decide +kernel
theorem dX2_putLeader_38 : decode cX2_putLeader 38 = .ok (.aload 4, 2) := by decide +kernel
theorem dX2_putLeader_40 : decode cX2_putLeader 40 = .ok (.iload_n 2, 1) := by decide +kernel
theorem dX2_putLeader_41 : decode cX2_putLeader 41 = .ok (.putfield 72, 3) := by decide +kernel
theorem dX2_putLeader_44 : decode cX2_putLeader 44 = .ok (.iload_n 3, 1) := by decide +kernel
theorem dX2_putLeader_45 : decode cX2_putLeader 45 = .ok (.iload_n 1, 1) := by decide +kernel
theorem dX2_putLeader_46 : decode cX2_putLeader 46 = .ok (.if_icmp .eq 9, 3) := by decide +kernel
theorem dX2_putLeader_49 : decode cX2_putLeader 49 = .ok (.aload 4, 2) := by decide +kernel
theorem dX2_putLeader_51 : decode cX2_putLeader 51 = .ok (.iconst (-1), 1) := by decide +kernel
theorem dX2_putLeader_52 : decode cX2_putLeader 52 = .ok (.putfield 51, 3) := by decide +kernel
theorem dX2_putLeader_55 : decode cX2_putLeader 55 = .ok (.iinc 3 1, 3) := by decide +kernel
theorem dX2_putLeader_58 : decode cX2_putLeader 58 = .ok (.goto (-41), 3) := by decide +kernel
theorem dX2_putLeader_61 : decode cX2_putLeader 61 = .ok (.aload_n 0, 1) := by decide +kernel
theorem dX2_putLeader_62 : decode cX2_putLeader 62 = .ok (.invokevirtual 75, 3) := by decide +kernel
theorem dX2_putLeader_65 : decode cX2_putLeader 65 = .ok (.return_, 1) := by decide +kernel
set_option maxRecDepth 20000 in
theorem ggX2_dropLate_X2_leading : GoodIn wsX2_dropLate wsX2_leading := goodIn_r _ [9, 2, 10, 11, 12, 8, 13, 1, 35, 36, 37, 38, 39, 40] (by decide +kernel) (by decide +kernel)
set_option maxRecDepth 20000 in
theorem gX2_dropLate_X2_leading : GoodIn wsX2_dropLate (wsV RX2 54 RX2 yX2_leading wsX2_leading) := goodIn_app (goodIn_of _ (by decide +kernel)) ggX2_dropLate_X2_leading
set_option maxRecDepth 20000 in
theorem ggX2_dropLate_X5_contains : GoodIn wsX2_dropLate wsX5_contains := goodIn_r _ [16] (by decide +kernel) (by decide +kernel)
set_option maxRecDepth 20000 in
theorem gX2_dropLate_X5_contains_n37 : GoodIn wsX2_dropLate (wsX5_contains) := ggX2_dropLate_X5_contains
set_option maxRecDepth 20000 in
theorem ggX2_dropLate_X2_raiseHw : GoodIn wsX2_dropLate wsX2_raiseHw := goodIn_r _ [20, 21, 3, 22, 23, 24, 25, 26, 27, 28, 29, 5, 6, 7, 8, 9, 2, 10, 11, 12, 13, 1, 14, 15, 16, 30, 31, 32, 33, 34, 41, 42, 43, 44, 45, 46, 47, 35, 36, 37, 38, 39, 40] (by decide +kernel) (by decide +kernel)
set_option maxRecDepth 20000 in
theorem gX2_dropLate_X2_raiseHw : GoodIn wsX2_dropLate (wsV RX2 75 RX2 yX2_raiseHw wsX2_raiseHw) := goodIn_app (goodIn_of _ (by decide +kernel)) ggX2_dropLate_X2_raiseHw
theorem dX2_dropLate_0 : decode cX2_dropLate 0 = .ok (.aload_n 0, 1) := by decide +kernel
theorem dX2_dropLate_1 : decode cX2_dropLate 1 = .ok (.invokevirtual 54, 3) := by decide +kernel
theorem dX2_dropLate_4 : decode cX2_dropLate 4 = .ok (.ifnonnull 5, 3) := by decide +kernel
theorem dX2_dropLate_7 : decode cX2_dropLate 7 = .ok (.iconst 0, 1) := by decide +kernel
theorem dX2_dropLate_8 : decode cX2_dropLate 8 = .ok (.ireturn, 1) := by decide +kernel
theorem dX2_dropLate_9 : decode cX2_dropLate 9 = .ok (.iconst 0, 1) := by decide +kernel
theorem dX2_dropLate_10 : decode cX2_dropLate 10 = .ok (.istore_n 2, 1) := by decide +kernel
theorem dX2_dropLate_11 : decode cX2_dropLate 11 = .ok (.iconst 0, 1) := by decide +kernel
theorem dX2_dropLate_12 : decode cX2_dropLate 12 = .ok (.istore_n 3, 1) := by decide +kernel
theorem dX2_dropLate_13 : decode cX2_dropLate 13 = .ok (.iload_n 3, 1) := by decide +kernel
theorem dX2_dropLate_14 : decode cX2_dropLate 14 = .ok (.iconst 5, 1) := by decide +kernel
theorem dX2_dropLate_15 : decode cX2_dropLate 15 = .ok (.if_icmp .ge 70, 3) := by decide +kernel
theorem dX2_dropLate_18 : decode cX2_dropLate 18 = .ok (.aload_n 0, 1) := by decide +kernel
theorem dX2_dropLate_19 : decode cX2_dropLate 19 = .ok (.getfield 11, 3) := by decide +kernel
theorem dX2_dropLate_22 : decode cX2_dropLate 22 = .ok (.iload_n 3, 1) := by decide +kernel
theorem dX2_dropLate_23 : decode cX2_dropLate 23 = .ok (.aaload, 1) := by decide +kernel
theorem dX2_dropLate_24 : decode cX2_dropLate 24 = .ok (.astore 4, 2) := by decide +kernel
theorem dX2_dropLate_26 : decode cX2_dropLate 26 = .ok (.aload 4, 2) := by decide +kernel
theorem dX2_dropLate_28 : decode cX2_dropLate 28 = .ok (.ifnull 51, 3) := by decide +kernel
theorem dX2_dropLate_31 : decode cX2_dropLate 31 = .ok (.iload_n 3, 1) := by decide +kernel
theorem dX2_dropLate_32 : decode cX2_dropLate 32 = .ok (.aload_n 0, 1) := by decide +kernel
theorem dX2_dropLate_33 : decode cX2_dropLate 33 = .ok (.getfield 34, 3) := by decide +kernel
theorem dX2_dropLate_36 : decode cX2_dropLate 36 = .ok (.if_icmp .eq 43, 3) := by decide +kernel
theorem dX2_dropLate_39 : decode cX2_dropLate 39 = .ok (.aload_n 0, 1) := by decide +kernel
theorem dX2_dropLate_40 : decode cX2_dropLate 40 = .ok (.getfield 27, 3) := by decide +kernel
theorem dX2_dropLate_43 : decode cX2_dropLate 43 = .ok (.iload_n 3, 1) := by decide +kernel
theorem dX2_dropLate_44 : decode cX2_dropLate 44 = .ok (.invokestatic 37, 3) := by decide +kernel
theorem dX2_dropLate_47 : decode cX2_dropLate 47 = .ok (.ifCond .eq 32, 3) := by decide +kernel
theorem dX2_dropLate_50 : decode cX2_dropLate 50 = .ok (.iload_n 1, 1) := by decide +kernel
theorem dX2_dropLate_51 : decode cX2_dropLate 51 = .ok (.aload 4, 2) := by decide +kernel
theorem dX2_dropLate_53 : decode cX2_dropLate 53 = .ok (.getfield 72, 3) := by decide +kernel
theorem dX2_dropLate_56 : decode cX2_dropLate 56 = .ok (.isub, 1) := by decide +kernel
theorem dX2_dropLate_57 : decode cX2_dropLate 57 = .ok (.bipush 10, 2) := by decide +kernel
theorem dX2_dropLate_59 : decode cX2_dropLate 59 = .ok (.if_icmp .le 20, 3) := by decide +kernel
theorem dX2_dropLate_62 : decode cX2_dropLate 62 = .ok (.aload_n 0, 1) := by decide +kernel
theorem dX2_dropLate_63 : decode cX2_dropLate 63 = .ok (.dup, 1) := by decide +kernel
theorem dX2_dropLate_64 : decode cX2_dropLate 64 = .ok (.getfield 27, 3) := by decide +kernel
theorem dX2_dropLate_67 : decode cX2_dropLate 67 = .ok (.iconst 1, 1) := by decide +kernel
theorem dX2_dropLate_68 : decode cX2_dropLate 68 = .ok (.iload_n 3, 1) := by decide +kernel
theorem dX2_dropLate_69 : decode cX2_dropLate 69 = .ok (.ishl, 1) := by decide +kernel
theorem dX2_dropLate_70 : decode cX2_dropLate 70 = .ok (.iconst (-1), 1) := by decide +kernel
theorem dX2_dropLate_71 : decode cX2_dropLate 71 = .ok (.ixor, 1) := by decide +kernel
theorem dX2_dropLate_72 : decode cX2_dropLate 72 = .ok (.iand, 1) := by decide +kernel
theorem dX2_dropLate_73 : decode cX2_dropLate 73 = .ok (.putfield 27, 3) := by decide +kernel
theorem dX2_dropLate_76 : decode cX2_dropLate 76 = .ok (.iinc 2 1, 3) := by decide +kernel
theorem dX2_dropLate_79 : decode cX2_dropLate 79 = .ok (.iinc 3 1, 3) := by decide +kernel
theorem dX2_dropLate_82 : decode cX2_dropLate 82 = .ok (.goto (-69), 3) := by decide +kernel
theorem dX2_dropLate_85 : decode cX2_dropLate 85 = .ok (.aload_n 0, 1) := by decide +kernel
theorem dX2_dropLate_86 : decode cX2_dropLate 86 = .ok (.invokevirtual 75, 3) := by decide +kernel
theorem dX2_dropLate_89 : decode cX2_dropLate 89 = .ok (.iload_n 2, 1) := by decide +kernel
theorem dX2_dropLate_90 : decode cX2_dropLate 90 = .ok (.ireturn, 1) := by decide +kernel
set_option maxRecDepth 20000 in
theorem ggX2_lose_X2_replicaAt : GoodIn wsX2_lose wsX2_replicaAt := goodIn_r _ [7, 8, 43, 44, 45, 46, 47, 48] (by decide +kernel) (by decide +kernel)
set_option maxRecDepth 20000 in
theorem gX2_lose_X2_replicaAt : GoodIn wsX2_lose (wsV RX2 44 RX2 yX2_replicaAt wsX2_replicaAt) := goodIn_app (goodIn_of _ (by decide +kernel)) ggX2_lose_X2_replicaAt
set_option maxRecDepth 20000 in
theorem ggX2_lose_X4_loseUnflushed : GoodIn wsX2_lose wsX4_loseUnflushed := goodIn_r _ [13, 14, 15, 16, 17, 18, 19, 20, 49, 50, 51, 52, 53, 54, 55] (by decide +kernel) (by decide +kernel)
set_option maxRecDepth 20000 in
theorem gX2_lose_X4_loseUnflushed : GoodIn wsX2_lose (wsV RX2 78 RX4 yX4_loseUnflushed wsX4_loseUnflushed) := goodIn_app (goodIn_of _ (by decide +kernel)) ggX2_lose_X4_loseUnflushed
set_option maxRecDepth 20000 in
theorem ggX2_lose_X2_raiseHw : GoodIn wsX2_lose wsX2_raiseHw := goodIn_r _ [24, 25, 2, 26, 17, 18, 19, 27, 28, 29, 30, 31, 32, 33, 6, 34, 1, 3, 4, 5, 7, 8, 35, 36, 37, 38, 39, 40, 41, 42, 49, 50, 51, 52, 53, 54, 55, 43, 44, 45, 46, 47, 48] (by decide +kernel) (by decide +kernel)
set_option maxRecDepth 20000 in
theorem gX2_lose_X2_raiseHw : GoodIn wsX2_lose (wsV RX2 75 RX2 yX2_raiseHw wsX2_raiseHw) := goodIn_app (goodIn_of _ (by decide +kernel)) ggX2_lose_X2_raiseHw
theorem dX2_lose_0 : decode cX2_lose 0 = .ok (.aload_n 0, 1) := by decide +kernel
theorem dX2_lose_1 : decode cX2_lose 1 = .ok (.iload_n 1, 1) := by decide +kernel
theorem dX2_lose_2 : decode cX2_lose 2 = .ok (.invokevirtual 44, 3) := by decide +kernel
theorem dX2_lose_5 : decode cX2_lose 5 = .ok (.astore_n 3, 1) := by decide +kernel
theorem dX2_lose_6 : decode cX2_lose 6 = .ok (.aload_n 3, 1) := by decide +kernel
theorem dX2_lose_7 : decode cX2_lose 7 = .ok (.ifnonnull 4, 3) := by decide +kernel
theorem dX2_lose_10 : decode cX2_lose 10 = .ok (.return_, 1) := by decide +kernel
theorem dX2_lose_11 : decode cX2_lose 11 = .ok (.aload_n 3, 1) := by decide +kernel
theorem dX2_lose_12 : decode cX2_lose 12 = .ok (.iload_n 2, 1) := by decide +kernel
theorem dX2_lose_13 : decode cX2_lose 13 = .ok (.invokevirtual 78, 3) := by decide +kernel
theorem dX2_lose_16 : decode cX2_lose 16 = .ok (.aload_n 0, 1) := by decide +kernel
theorem dX2_lose_17 : decode cX2_lose 17 = .ok (.getfield 34, 3) := by decide +kernel
theorem dX2_lose_20 : decode cX2_lose 20 = .ok (.iload_n 1, 1) := by decide +kernel
theorem dX2_lose_21 : decode cX2_lose 21 = .ok (.if_icmp .ne 8, 3) := by decide +kernel
theorem dX2_lose_24 : decode cX2_lose 24 = .ok (.aload_n 0, 1) := by decide +kernel
theorem dX2_lose_25 : decode cX2_lose 25 = .ok (.iconst (-1), 1) := by decide +kernel
theorem dX2_lose_26 : decode cX2_lose 26 = .ok (.putfield 34, 3) := by decide +kernel
theorem dX2_lose_29 : decode cX2_lose 29 = .ok (.aload_n 0, 1) := by decide +kernel
theorem dX2_lose_30 : decode cX2_lose 30 = .ok (.getfield 27, 3) := by decide +kernel
theorem dX2_lose_33 : decode cX2_lose 33 = .ok (.iconst 1, 1) := by decide +kernel
theorem dX2_lose_34 : decode cX2_lose 34 = .ok (.iload_n 1, 1) := by decide +kernel
theorem dX2_lose_35 : decode cX2_lose 35 = .ok (.ishl, 1) := by decide +kernel
theorem dX2_lose_36 : decode cX2_lose 36 = .ok (.iconst (-1), 1) := by decide +kernel
theorem dX2_lose_37 : decode cX2_lose 37 = .ok (.ixor, 1) := by decide +kernel
theorem dX2_lose_38 : decode cX2_lose 38 = .ok (.iand, 1) := by decide +kernel
theorem dX2_lose_39 : decode cX2_lose 39 = .ok (.istore 4, 2) := by decide +kernel
theorem dX2_lose_41 : decode cX2_lose 41 = .ok (.iload 4, 2) := by decide +kernel
theorem dX2_lose_43 : decode cX2_lose 43 = .ok (.ifCond .eq 9, 3) := by decide +kernel
theorem dX2_lose_46 : decode cX2_lose 46 = .ok (.aload_n 0, 1) := by decide +kernel
theorem dX2_lose_47 : decode cX2_lose 47 = .ok (.iload 4, 2) := by decide +kernel
theorem dX2_lose_49 : decode cX2_lose 49 = .ok (.putfield 27, 3) := by decide +kernel
theorem dX2_lose_52 : decode cX2_lose 52 = .ok (.aload_n 0, 1) := by decide +kernel
theorem dX2_lose_53 : decode cX2_lose 53 = .ok (.invokevirtual 75, 3) := by decide +kernel
theorem dX2_lose_56 : decode cX2_lose 56 = .ok (.return_, 1) := by decide +kernel
theorem dX3_init_0 : decode cX3_init 0 = .ok (.aload_n 0, 1) := by decide +kernel
theorem dX3_init_1 : decode cX3_init 1 = .ok (.invokespecial 3, 3) := by decide +kernel
theorem dX3_init_4 : decode cX3_init 4 = .ok (.aload_n 0, 1) := by decide +kernel
theorem dX3_init_5 : decode cX3_init 5 = .ok (.iconst (-1), 1) := by decide +kernel
theorem dX3_init_6 : decode cX3_init 6 = .ok (.putfield 9, 3) := by decide +kernel
theorem dX3_init_9 : decode cX3_init 9 = .ok (.aload_n 0, 1) := by decide +kernel
theorem dX3_init_10 : decode cX3_init 10 = .ok (.iconst 0, 1) := by decide +kernel
theorem dX3_init_11 : decode cX3_init 11 = .ok (.putfield 15, 3) := by decide +kernel
theorem dX3_init_14 : decode cX3_init 14 = .ok (.aload_n 0, 1) := by decide +kernel
theorem dX3_init_15 : decode cX3_init 15 = .ok (.iconst 0, 1) := by decide +kernel
theorem dX3_init_16 : decode cX3_init 16 = .ok (.putfield 18, 3) := by decide +kernel
theorem dX3_init_19 : decode cX3_init 19 = .ok (.aload_n 0, 1) := by decide +kernel
theorem dX3_init_20 : decode cX3_init 20 = .ok (.iconst (-1), 1) := by decide +kernel
theorem dX3_init_21 : decode cX3_init 21 = .ok (.putfield 22, 3) := by decide +kernel
theorem dX3_init_24 : decode cX3_init 24 = .ok (.aload_n 0, 1) := by decide +kernel
theorem dX3_init_25 : decode cX3_init 25 = .ok (.iconst 0, 1) := by decide +kernel
theorem dX3_init_26 : decode cX3_init 26 = .ok (.putfield 25, 3) := by decide +kernel
theorem dX3_init_29 : decode cX3_init 29 = .ok (.aload_n 0, 1) := by decide +kernel
theorem dX3_init_30 : decode cX3_init 30 = .ok (.iload_n 1, 1) := by decide +kernel
theorem dX3_init_31 : decode cX3_init 31 = .ok (.putfield 28, 3) := by decide +kernel
theorem dX3_init_34 : decode cX3_init 34 = .ok (.return_, 1) := by decide +kernel
theorem dX3_open_0 : decode cX3_open 0 = .ok (.aload_n 0, 1) := by decide +kernel
theorem dX3_open_1 : decode cX3_open 1 = .ok (.iconst 1, 1) := by decide +kernel
theorem dX3_open_2 : decode cX3_open 2 = .ok (.putfield 15, 3) := by decide +kernel
theorem dX3_open_5 : decode cX3_open 5 = .ok (.aload_n 0, 1) := by decide +kernel
theorem dX3_open_6 : decode cX3_open 6 = .ok (.aload_n 0, 1) := by decide +kernel
theorem dX3_open_7 : decode cX3_open 7 = .ok (.getfield 9, 3) := by decide +kernel
theorem dX3_open_10 : decode cX3_open 10 = .ok (.putfield 22, 3) := by decide +kernel
theorem dX3_open_13 : decode cX3_open 13 = .ok (.aload_n 0, 1) := by decide +kernel
theorem dX3_open_14 : decode cX3_open 14 = .ok (.iconst 0, 1) := by decide +kernel
theorem dX3_open_15 : decode cX3_open 15 = .ok (.putfield 25, 3) := by decide +kernel
theorem dX3_open_18 : decode cX3_open 18 = .ok (.return_, 1) := by decide +kernel
theorem dX3_startEnding_0 : decode cX3_startEnding 0 = .ok (.aload_n 0, 1) := by decide +kernel
theorem dX3_startEnding_1 : decode cX3_startEnding 1 = .ok (.iconst 2, 1) := by decide +kernel
theorem dX3_startEnding_2 : decode cX3_startEnding 2 = .ok (.putfield 15, 3) := by decide +kernel
theorem dX3_startEnding_5 : decode cX3_startEnding 5 = .ok (.aload_n 0, 1) := by decide +kernel
theorem dX3_startEnding_6 : decode cX3_startEnding 6 = .ok (.iload_n 1, 1) := by decide +kernel
theorem dX3_startEnding_7 : decode cX3_startEnding 7 = .ok (.putfield 18, 3) := by decide +kernel
theorem dX3_startEnding_10 : decode cX3_startEnding 10 = .ok (.return_, 1) := by decide +kernel
theorem dX4_init_0 : decode cX4_init 0 = .ok (.aload_n 0, 1) := by decide +kernel
theorem dX4_init_1 : decode cX4_init 1 = .ok (.invokespecial 3, 3) := by decide +kernel
theorem dX4_init_4 : decode cX4_init 4 = .ok (.aload_n 0, 1) := by decide +kernel
theorem dX4_init_5 : decode cX4_init 5 = .ok (.bipush 60, 2) := by decide +kernel
theorem dX4_init_7 : decode cX4_init 7 = .ok (.anewarray 9, 3) := by decide +kernel
theorem dX4_init_10 : decode cX4_init 10 = .ok (.putfield 11, 3) := by decide +kernel
theorem dX4_init_13 : decode cX4_init 13 = .ok (.aload_n 0, 1) := by decide +kernel
theorem dX4_init_14 : decode cX4_init 14 = .ok (.iconst 0, 1) := by decide +kernel
theorem dX4_init_15 : decode cX4_init 15 = .ok (.putfield 17, 3) := by decide +kernel
theorem dX4_init_18 : decode cX4_init 18 = .ok (.aload_n 0, 1) := by decide +kernel
theorem dX4_init_19 : decode cX4_init 19 = .ok (.iconst 0, 1) := by decide +kernel
theorem dX4_init_20 : decode cX4_init 20 = .ok (.putfield 21, 3) := by decide +kernel
theorem dX4_init_23 : decode cX4_init 23 = .ok (.aload_n 0, 1) := by decide +kernel
theorem dX4_init_24 : decode cX4_init 24 = .ok (.iconst 0, 1) := by decide +kernel
theorem dX4_init_25 : decode cX4_init 25 = .ok (.putfield 24, 3) := by decide +kernel
theorem dX4_init_28 : decode cX4_init 28 = .ok (.aload_n 0, 1) := by decide +kernel
theorem dX4_init_29 : decode cX4_init 29 = .ok (.iconst 0, 1) := by decide +kernel
theorem dX4_init_30 : decode cX4_init 30 = .ok (.putfield 27, 3) := by decide +kernel
theorem dX4_init_33 : decode cX4_init 33 = .ok (.aload_n 0, 1) := by decide +kernel
theorem dX4_init_34 : decode cX4_init 34 = .ok (.iconst 0, 1) := by decide +kernel
theorem dX4_init_35 : decode cX4_init 35 = .ok (.putfield 30, 3) := by decide +kernel
theorem dX4_init_38 : decode cX4_init 38 = .ok (.aload_n 0, 1) := by decide +kernel
theorem dX4_init_39 : decode cX4_init 39 = .ok (.iload_n 1, 1) := by decide +kernel
theorem dX4_init_40 : decode cX4_init 40 = .ok (.putfield 33, 3) := by decide +kernel
theorem dX4_init_43 : decode cX4_init 43 = .ok (.return_, 1) := by decide +kernel
set_option maxRecDepth 20000 in
theorem ggX4_entryAt_J9_floorMod_7cf53 : GoodIn wsX4_entryAt wsJ9_floorMod_7cf53 := goodIn_r _ [7] (by decide +kernel) (by decide +kernel)
set_option maxRecDepth 20000 in
theorem gX4_entryAt_J9_floorMod_7cf53 : GoodIn wsX4_entryAt (va_wsS RX4 36 yJ9_floorMod_7cf53 wsJ9_floorMod_7cf53) := goodIn_app (goodIn_of _ (by decide +kernel)) ggX4_entryAt_J9_floorMod_7cf53
theorem dX4_entryAt_0 : decode cX4_entryAt 0 = .ok (.iload_n 1, 1) := by decide +kernel
theorem dX4_entryAt_1 : decode cX4_entryAt 1 = .ok (.aload_n 0, 1) := by decide +kernel
theorem dX4_entryAt_2 : decode cX4_entryAt 2 = .ok (.getfield 17, 3) := by decide +kernel
theorem dX4_entryAt_5 : decode cX4_entryAt 5 = .ok (.if_icmp .lt 11, 3) := by decide +kernel
theorem dX4_entryAt_8 : decode cX4_entryAt 8 = .ok (.iload_n 1, 1) := by decide +kernel
theorem dX4_entryAt_9 : decode cX4_entryAt 9 = .ok (.aload_n 0, 1) := by decide +kernel
theorem dX4_entryAt_10 : decode cX4_entryAt 10 = .ok (.getfield 21, 3) := by decide +kernel
theorem dX4_entryAt_13 : decode cX4_entryAt 13 = .ok (.if_icmp .lt 7, 3) := by decide +kernel
theorem dX4_entryAt_16 : decode cX4_entryAt 16 = .ok (.aconst_null, 1) := by decide +kernel
theorem dX4_entryAt_17 : decode cX4_entryAt 17 = .ok (.goto 14, 3) := by decide +kernel
theorem dX4_entryAt_20 : decode cX4_entryAt 20 = .ok (.aload_n 0, 1) := by decide +kernel
theorem dX4_entryAt_21 : decode cX4_entryAt 21 = .ok (.getfield 11, 3) := by decide +kernel
theorem dX4_entryAt_24 : decode cX4_entryAt 24 = .ok (.iload_n 1, 1) := by decide +kernel
theorem dX4_entryAt_25 : decode cX4_entryAt 25 = .ok (.bipush 60, 2) := by decide +kernel
theorem dX4_entryAt_27 : decode cX4_entryAt 27 = .ok (.invokestatic 36, 3) := by decide +kernel
theorem dX4_entryAt_30 : decode cX4_entryAt 30 = .ok (.aaload, 1) := by decide +kernel
theorem dX4_entryAt_31 : decode cX4_entryAt 31 = .ok (.areturn, 1) := by decide +kernel
theorem dX4_held_0 : decode cX4_held 0 = .ok (.aload_n 0, 1) := by decide +kernel
theorem dX4_held_1 : decode cX4_held 1 = .ok (.getfield 21, 3) := by decide +kernel
theorem dX4_held_4 : decode cX4_held 4 = .ok (.aload_n 0, 1) := by decide +kernel
theorem dX4_held_5 : decode cX4_held 5 = .ok (.getfield 17, 3) := by decide +kernel
theorem dX4_held_8 : decode cX4_held 8 = .ok (.isub, 1) := by decide +kernel
theorem dX4_held_9 : decode cX4_held 9 = .ok (.ireturn, 1) := by decide +kernel
set_option maxRecDepth 20000 in
theorem ggX4_isFull_X4_held : GoodIn wsX4_isFull wsX4_held := goodIn_r _ [5, 6, 7, 8, 9, 10, 11, 12, 13, 14] (by decide +kernel) (by decide +kernel)
set_option maxRecDepth 20000 in
theorem gX4_isFull_X4_held : GoodIn wsX4_isFull (wsV RX4 42 RX4 yX4_held wsX4_held) := goodIn_app (goodIn_of _ (by decide +kernel)) ggX4_isFull_X4_held
theorem dX4_isFull_0 : decode cX4_isFull 0 = .ok (.aload_n 0, 1) := by decide +kernel
theorem dX4_isFull_1 : decode cX4_isFull 1 = .ok (.invokevirtual 42, 3) := by decide +kernel
theorem dX4_isFull_4 : decode cX4_isFull 4 = .ok (.bipush 60, 2) := by decide +kernel
theorem dX4_isFull_6 : decode cX4_isFull 6 = .ok (.if_icmp .lt 7, 3) := by decide +kernel
theorem dX4_isFull_9 : decode cX4_isFull 9 = .ok (.iconst 1, 1) := by decide +kernel
theorem dX4_isFull_10 : decode cX4_isFull 10 = .ok (.goto 4, 3) := by decide +kernel
theorem dX4_isFull_13 : decode cX4_isFull 13 = .ok (.iconst 0, 1) := by decide +kernel
theorem dX4_isFull_14 : decode cX4_isFull 14 = .ok (.ireturn, 1) := by decide +kernel
set_option maxRecDepth 20000 in
theorem ggX4_append_J9_floorMod_7cf53 : GoodIn wsX4_append wsJ9_floorMod_7cf53 := goodIn_r _ [6] (by decide +kernel) (by decide +kernel)
set_option maxRecDepth 20000 in
theorem gX4_append_J9_floorMod_7cf53 : GoodIn wsX4_append (va_wsS RX4 36 yJ9_floorMod_7cf53 wsJ9_floorMod_7cf53) := goodIn_app (goodIn_of _ (by decide +kernel)) ggX4_append_J9_floorMod_7cf53
theorem dX4_append_0 : decode cX4_append 0 = .ok (.aload_n 0, 1) := by decide +kernel
theorem dX4_append_1 : decode cX4_append 1 = .ok (.getfield 11, 3) := by decide +kernel
theorem dX4_append_4 : decode cX4_append 4 = .ok (.aload_n 0, 1) := by decide +kernel
theorem dX4_append_5 : decode cX4_append 5 = .ok (.getfield 21, 3) := by decide +kernel
theorem dX4_append_8 : decode cX4_append 8 = .ok (.bipush 60, 2) := by decide +kernel
theorem dX4_append_10 : decode cX4_append 10 = .ok (.invokestatic 36, 3) := by decide +kernel
theorem dX4_append_13 : decode cX4_append 13 = .ok (.aload_n 1, 1) := by decide +kernel
theorem dX4_append_14 : decode cX4_append 14 = .ok (.aastore, 1) := by decide +kernel
theorem dX4_append_15 : decode cX4_append 15 = .ok (.aload_n 0, 1) := by decide +kernel
theorem dX4_append_16 : decode cX4_append 16 = .ok (.dup, 1) := by decide +kernel
theorem dX4_append_17 : decode cX4_append 17 = .ok (.getfield 21, 3) := by decide +kernel
theorem dX4_append_20 : decode cX4_append 20 = .ok (.iconst 1, 1) := by decide +kernel
theorem dX4_append_21 : decode cX4_append 21 = .ok (.iadd, 1) := by decide +kernel
theorem dX4_append_22 : decode cX4_append 22 = .ok (.putfield 21, 3) := by decide +kernel
theorem dX4_append_25 : decode cX4_append 25 = .ok (.return_, 1) := by decide +kernel
theorem dX4_dropBefore_0 : decode cX4_dropBefore 0 = .ok (.aload_n 0, 1) := by decide +kernel
theorem dX4_dropBefore_1 : decode cX4_dropBefore 1 = .ok (.aload_n 0, 1) := by decide +kernel
theorem dX4_dropBefore_2 : decode cX4_dropBefore 2 = .ok (.getfield 17, 3) := by decide +kernel
theorem dX4_dropBefore_5 : decode cX4_dropBefore 5 = .ok (.iload_n 1, 1) := by decide +kernel
theorem dX4_dropBefore_6 : decode cX4_dropBefore 6 = .ok (.invokestatic 46, 3) := by decide +kernel
theorem dX4_dropBefore_9 : decode cX4_dropBefore 9 = .ok (.putfield 17, 3) := by decide +kernel
theorem dX4_dropBefore_12 : decode cX4_dropBefore 12 = .ok (.aload_n 0, 1) := by decide +kernel
theorem dX4_dropBefore_13 : decode cX4_dropBefore 13 = .ok (.aload_n 0, 1) := by decide +kernel
theorem dX4_dropBefore_14 : decode cX4_dropBefore 14 = .ok (.getfield 27, 3) := by decide +kernel
theorem dX4_dropBefore_17 : decode cX4_dropBefore 17 = .ok (.aload_n 0, 1) := by decide +kernel
theorem dX4_dropBefore_18 : decode cX4_dropBefore 18 = .ok (.getfield 17, 3) := by decide +kernel
theorem dX4_dropBefore_21 : decode cX4_dropBefore 21 = .ok (.invokestatic 46, 3) := by decide +kernel
theorem dX4_dropBefore_24 : decode cX4_dropBefore 24 = .ok (.putfield 27, 3) := by decide +kernel
theorem dX4_dropBefore_27 : decode cX4_dropBefore 27 = .ok (.return_, 1) := by decide +kernel
theorem dX4_loseUnflushed_0 : decode cX4_loseUnflushed 0 = .ok (.aload_n 0, 1) := by decide +kernel
theorem dX4_loseUnflushed_1 : decode cX4_loseUnflushed 1 = .ok (.aload_n 0, 1) := by decide +kernel
theorem dX4_loseUnflushed_2 : decode cX4_loseUnflushed 2 = .ok (.getfield 27, 3) := by decide +kernel
theorem dX4_loseUnflushed_5 : decode cX4_loseUnflushed 5 = .ok (.iload_n 1, 1) := by decide +kernel
theorem dX4_loseUnflushed_6 : decode cX4_loseUnflushed 6 = .ok (.aload_n 0, 1) := by decide +kernel
theorem dX4_loseUnflushed_7 : decode cX4_loseUnflushed 7 = .ok (.getfield 21, 3) := by decide +kernel
theorem dX4_loseUnflushed_10 : decode cX4_loseUnflushed 10 = .ok (.aload_n 0, 1) := by decide +kernel
theorem dX4_loseUnflushed_11 : decode cX4_loseUnflushed 11 = .ok (.getfield 27, 3) := by decide +kernel
theorem dX4_loseUnflushed_14 : decode cX4_loseUnflushed 14 = .ok (.isub, 1) := by decide +kernel
theorem dX4_loseUnflushed_15 : decode cX4_loseUnflushed 15 = .ok (.invokestatic 49, 3) := by decide +kernel
theorem dX4_loseUnflushed_18 : decode cX4_loseUnflushed 18 = .ok (.iadd, 1) := by decide +kernel
theorem dX4_loseUnflushed_19 : decode cX4_loseUnflushed 19 = .ok (.putfield 21, 3) := by decide +kernel
theorem dX4_loseUnflushed_22 : decode cX4_loseUnflushed 22 = .ok (.aload_n 0, 1) := by decide +kernel
theorem dX4_loseUnflushed_23 : decode cX4_loseUnflushed 23 = .ok (.aload_n 0, 1) := by decide +kernel
theorem dX4_loseUnflushed_24 : decode cX4_loseUnflushed 24 = .ok (.getfield 24, 3) := by decide +kernel
theorem dX4_loseUnflushed_27 : decode cX4_loseUnflushed 27 = .ok (.aload_n 0, 1) := by decide +kernel
theorem dX4_loseUnflushed_28 : decode cX4_loseUnflushed 28 = .ok (.getfield 21, 3) := by decide +kernel
theorem dX4_loseUnflushed_31 : decode cX4_loseUnflushed 31 = .ok (.invokestatic 49, 3) := by decide +kernel
theorem dX4_loseUnflushed_34 : decode cX4_loseUnflushed 34 = .ok (.putfield 24, 3) := by decide +kernel
theorem dX4_loseUnflushed_37 : decode cX4_loseUnflushed 37 = .ok (.return_, 1) := by decide +kernel
set_option maxRecDepth 20000 in
theorem ggX4_offsetOf_X4_entryAt : GoodIn wsX4_offsetOf wsX4_entryAt := goodIn_r _ [8, 1, 2, 9, 10, 11, 12, 13, 22, 23, 24, 25, 26, 27, 28] (by decide +kernel) (by decide +kernel)
set_option maxRecDepth 20000 in
theorem gX4_offsetOf_X4_entryAt : GoodIn wsX4_offsetOf (wsV RX4 52 RX4 yX4_entryAt wsX4_entryAt) := goodIn_app (goodIn_of _ (by decide +kernel)) ggX4_offsetOf_X4_entryAt
set_option maxRecDepth 20000 in
theorem ggX4_offsetOf_X0_isDataBy : GoodIn wsX4_offsetOf wsX0_isDataBy := goodIn_r _ [18, 19, 20, 21, 29, 30, 31, 32, 33, 34, 35, 36] (by decide +kernel) (by decide +kernel)
set_option maxRecDepth 20000 in
theorem gX4_offsetOf_X0_isDataBy : GoodIn wsX4_offsetOf (wsV RX4 56 RX0 yX0_isDataBy wsX0_isDataBy) := goodIn_app (goodIn_of _ (by decide +kernel)) ggX4_offsetOf_X0_isDataBy
theorem dX4_offsetOf_0 : decode cX4_offsetOf 0 = .ok (.aload_n 0, 1) := by decide +kernel
theorem dX4_offsetOf_1 : decode cX4_offsetOf 1 = .ok (.getfield 17, 3) := by decide +kernel
theorem dX4_offsetOf_4 : decode cX4_offsetOf 4 = .ok (.istore 4, 2) := by decide +kernel
theorem dX4_offsetOf_6 : decode cX4_offsetOf 6 = .ok (.iload 4, 2) := by decide +kernel
theorem dX4_offsetOf_8 : decode cX4_offsetOf 8 = .ok (.aload_n 0, 1) := by decide +kernel
theorem dX4_offsetOf_9 : decode cX4_offsetOf 9 = .ok (.getfield 21, 3) := by decide +kernel
theorem dX4_offsetOf_12 : decode cX4_offsetOf 12 = .ok (.if_icmp .ge 44, 3) := by decide +kernel
theorem dX4_offsetOf_15 : decode cX4_offsetOf 15 = .ok (.aload_n 0, 1) := by decide +kernel
theorem dX4_offsetOf_16 : decode cX4_offsetOf 16 = .ok (.iload 4, 2) := by decide +kernel
theorem dX4_offsetOf_18 : decode cX4_offsetOf 18 = .ok (.invokevirtual 52, 3) := by decide +kernel
theorem dX4_offsetOf_21 : decode cX4_offsetOf 21 = .ok (.astore 5, 2) := by decide +kernel
theorem dX4_offsetOf_23 : decode cX4_offsetOf 23 = .ok (.aload 5, 2) := by decide +kernel
theorem dX4_offsetOf_25 : decode cX4_offsetOf 25 = .ok (.ifnull 25, 3) := by decide +kernel
theorem dX4_offsetOf_28 : decode cX4_offsetOf 28 = .ok (.aload 5, 2) := by decide +kernel
theorem dX4_offsetOf_30 : decode cX4_offsetOf 30 = .ok (.iload_n 1, 1) := by decide +kernel
theorem dX4_offsetOf_31 : decode cX4_offsetOf 31 = .ok (.iload_n 2, 1) := by decide +kernel
theorem dX4_offsetOf_32 : decode cX4_offsetOf 32 = .ok (.invokevirtual 56, 3) := by decide +kernel
theorem dX4_offsetOf_35 : decode cX4_offsetOf 35 = .ok (.ifCond .eq 15, 3) := by decide +kernel
theorem dX4_offsetOf_38 : decode cX4_offsetOf 38 = .ok (.aload 5, 2) := by decide +kernel
theorem dX4_offsetOf_40 : decode cX4_offsetOf 40 = .ok (.getfield 60, 3) := by decide +kernel
theorem dX4_offsetOf_43 : decode cX4_offsetOf 43 = .ok (.iload_n 3, 1) := by decide +kernel
theorem dX4_offsetOf_44 : decode cX4_offsetOf 44 = .ok (.if_icmp .ne 6, 3) := by decide +kernel
theorem dX4_offsetOf_47 : decode cX4_offsetOf 47 = .ok (.iload 4, 2) := by decide +kernel
theorem dX4_offsetOf_49 : decode cX4_offsetOf 49 = .ok (.ireturn, 1) := by decide +kernel
theorem dX4_offsetOf_50 : decode cX4_offsetOf 50 = .ok (.iinc 4 1, 3) := by decide +kernel
theorem dX4_offsetOf_53 : decode cX4_offsetOf 53 = .ok (.goto (-47), 3) := by decide +kernel
theorem dX4_offsetOf_56 : decode cX4_offsetOf 56 = .ok (.iconst (-1), 1) := by decide +kernel
theorem dX4_offsetOf_57 : decode cX4_offsetOf 57 = .ok (.ireturn, 1) := by decide +kernel
set_option maxRecDepth 20000 in
theorem ggX4_nextSeq_X4_entryAt : GoodIn wsX4_nextSeq wsX4_entryAt := goodIn_r _ [8, 2, 1, 9, 10, 11, 12, 13, 22, 23, 24, 25, 26, 27, 28] (by decide +kernel) (by decide +kernel)
set_option maxRecDepth 20000 in
theorem gX4_nextSeq_X4_entryAt : GoodIn wsX4_nextSeq (wsV RX4 52 RX4 yX4_entryAt wsX4_entryAt) := goodIn_app (goodIn_of _ (by decide +kernel)) ggX4_nextSeq_X4_entryAt
set_option maxRecDepth 20000 in
theorem ggX4_nextSeq_X0_isDataBy : GoodIn wsX4_nextSeq wsX0_isDataBy := goodIn_r _ [18, 19, 20, 21, 29, 30, 31, 32, 33, 34, 35, 36] (by decide +kernel) (by decide +kernel)
set_option maxRecDepth 20000 in
theorem gX4_nextSeq_X0_isDataBy : GoodIn wsX4_nextSeq (wsV RX4 56 RX0 yX0_isDataBy wsX0_isDataBy) := goodIn_app (goodIn_of _ (by decide +kernel)) ggX4_nextSeq_X0_isDataBy
theorem dX4_nextSeq_0 : decode cX4_nextSeq 0 = .ok (.aload_n 0, 1) := by decide +kernel
theorem dX4_nextSeq_1 : decode cX4_nextSeq 1 = .ok (.getfield 21, 3) := by decide +kernel
theorem dX4_nextSeq_4 : decode cX4_nextSeq 4 = .ok (.iconst 1, 1) := by decide +kernel
theorem dX4_nextSeq_5 : decode cX4_nextSeq 5 = .ok (.isub, 1) := by decide +kernel
theorem dX4_nextSeq_6 : decode cX4_nextSeq 6 = .ok (.istore_n 3, 1) := by decide +kernel
theorem dX4_nextSeq_7 : decode cX4_nextSeq 7 = .ok (.iload_n 3, 1) := by decide +kernel
theorem dX4_nextSeq_8 : decode cX4_nextSeq 8 = .ok (.aload_n 0, 1) := by decide +kernel
theorem dX4_nextSeq_9 : decode cX4_nextSeq 9 = .ok (.getfield 17, 3) := by decide +kernel
theorem dX4_nextSeq_12 : decode cX4_nextSeq 12 = .ok (.if_icmp .lt 39, 3) := by decide +kernel
theorem dX4_nextSeq_15 : decode cX4_nextSeq 15 = .ok (.aload_n 0, 1) := by decide +kernel
theorem dX4_nextSeq_16 : decode cX4_nextSeq 16 = .ok (.iload_n 3, 1) := by decide +kernel
theorem dX4_nextSeq_17 : decode cX4_nextSeq 17 = .ok (.invokevirtual 52, 3) := by decide +kernel
theorem dX4_nextSeq_20 : decode cX4_nextSeq 20 = .ok (.astore 4, 2) := by decide +kernel
theorem dX4_nextSeq_22 : decode cX4_nextSeq 22 = .ok (.aload 4, 2) := by decide +kernel
theorem dX4_nextSeq_24 : decode cX4_nextSeq 24 = .ok (.ifnull 21, 3) := by decide +kernel
theorem dX4_nextSeq_27 : decode cX4_nextSeq 27 = .ok (.aload 4, 2) := by decide +kernel
theorem dX4_nextSeq_29 : decode cX4_nextSeq 29 = .ok (.iload_n 1, 1) := by decide +kernel
theorem dX4_nextSeq_30 : decode cX4_nextSeq 30 = .ok (.iload_n 2, 1) := by decide +kernel
theorem dX4_nextSeq_31 : decode cX4_nextSeq 31 = .ok (.invokevirtual 56, 3) := by decide +kernel
theorem dX4_nextSeq_34 : decode cX4_nextSeq 34 = .ok (.ifCond .eq 11, 3) := by decide +kernel
theorem dX4_nextSeq_37 : decode cX4_nextSeq 37 = .ok (.aload 4, 2) := by decide +kernel
theorem dX4_nextSeq_39 : decode cX4_nextSeq 39 = .ok (.getfield 60, 3) := by decide +kernel
theorem dX4_nextSeq_42 : decode cX4_nextSeq 42 = .ok (.iconst 1, 1) := by decide +kernel
theorem dX4_nextSeq_43 : decode cX4_nextSeq 43 = .ok (.iadd, 1) := by decide +kernel
theorem dX4_nextSeq_44 : decode cX4_nextSeq 44 = .ok (.ireturn, 1) := by decide +kernel
theorem dX4_nextSeq_45 : decode cX4_nextSeq 45 = .ok (.iinc 3 (-1), 3) := by decide +kernel
theorem dX4_nextSeq_48 : decode cX4_nextSeq 48 = .ok (.goto (-41), 3) := by decide +kernel
theorem dX4_nextSeq_51 : decode cX4_nextSeq 51 = .ok (.iconst 0, 1) := by decide +kernel
theorem dX4_nextSeq_52 : decode cX4_nextSeq 52 = .ok (.ireturn, 1) := by decide +kernel
set_option maxRecDepth 20000 in
theorem ggX4_agreeWith_X4_hasSameEpoch : GoodIn wsX4_agreeWith wsX4_hasSameEpoch := goodIn_r _ [15, 16, 17, 18, 19, 14, 20, 2, 1, 21, 22, 23, 24, 25, 33, 34, 35, 36, 37, 38, 39, 40, 26, 27, 28, 29, 30, 31, 32] (by decide +kernel) (by decide +kernel)
set_option maxRecDepth 20000 in
theorem gX4_agreeWith_X4_hasSameEpoch : GoodIn wsX4_agreeWith (wsV RX4 63 RX4 yX4_hasSameEpoch wsX4_hasSameEpoch) := goodIn_app (goodIn_of _ (by decide +kernel)) ggX4_agreeWith_X4_hasSameEpoch
theorem dX4_agreeWith_0 : decode cX4_agreeWith 0 = .ok (.aload_n 0, 1) := by decide +kernel
theorem dX4_agreeWith_1 : decode cX4_agreeWith 1 = .ok (.getfield 21, 3) := by decide +kernel
theorem dX4_agreeWith_4 : decode cX4_agreeWith 4 = .ok (.aload_n 1, 1) := by decide +kernel
theorem dX4_agreeWith_5 : decode cX4_agreeWith 5 = .ok (.getfield 17, 3) := by decide +kernel
theorem dX4_agreeWith_8 : decode cX4_agreeWith 8 = .ok (.if_icmp .ge 19, 3) := by decide +kernel
theorem dX4_agreeWith_11 : decode cX4_agreeWith 11 = .ok (.aload_n 0, 1) := by decide +kernel
theorem dX4_agreeWith_12 : decode cX4_agreeWith 12 = .ok (.aload_n 1, 1) := by decide +kernel
theorem dX4_agreeWith_13 : decode cX4_agreeWith 13 = .ok (.getfield 17, 3) := by decide +kernel
theorem dX4_agreeWith_16 : decode cX4_agreeWith 16 = .ok (.putfield 17, 3) := by decide +kernel
theorem dX4_agreeWith_19 : decode cX4_agreeWith 19 = .ok (.aload_n 0, 1) := by decide +kernel
theorem dX4_agreeWith_20 : decode cX4_agreeWith 20 = .ok (.aload_n 1, 1) := by decide +kernel
theorem dX4_agreeWith_21 : decode cX4_agreeWith 21 = .ok (.getfield 17, 3) := by decide +kernel
theorem dX4_agreeWith_24 : decode cX4_agreeWith 24 = .ok (.putfield 21, 3) := by decide +kernel
theorem dX4_agreeWith_27 : decode cX4_agreeWith 27 = .ok (.aload_n 0, 1) := by decide +kernel
theorem dX4_agreeWith_28 : decode cX4_agreeWith 28 = .ok (.getfield 17, 3) := by decide +kernel
theorem dX4_agreeWith_31 : decode cX4_agreeWith 31 = .ok (.aload_n 1, 1) := by decide +kernel
theorem dX4_agreeWith_32 : decode cX4_agreeWith 32 = .ok (.getfield 17, 3) := by decide +kernel
theorem dX4_agreeWith_35 : decode cX4_agreeWith 35 = .ok (.invokestatic 46, 3) := by decide +kernel
theorem dX4_agreeWith_38 : decode cX4_agreeWith 38 = .ok (.istore_n 2, 1) := by decide +kernel
theorem dX4_agreeWith_39 : decode cX4_agreeWith 39 = .ok (.iload_n 2, 1) := by decide +kernel
theorem dX4_agreeWith_40 : decode cX4_agreeWith 40 = .ok (.aload_n 0, 1) := by decide +kernel
theorem dX4_agreeWith_41 : decode cX4_agreeWith 41 = .ok (.getfield 21, 3) := by decide +kernel
theorem dX4_agreeWith_44 : decode cX4_agreeWith 44 = .ok (.if_icmp .ge 18, 3) := by decide +kernel
theorem dX4_agreeWith_47 : decode cX4_agreeWith 47 = .ok (.aload_n 0, 1) := by decide +kernel
theorem dX4_agreeWith_48 : decode cX4_agreeWith 48 = .ok (.iload_n 2, 1) := by decide +kernel
theorem dX4_agreeWith_49 : decode cX4_agreeWith 49 = .ok (.aload_n 1, 1) := by decide +kernel
theorem dX4_agreeWith_50 : decode cX4_agreeWith 50 = .ok (.invokevirtual 63, 3) := by decide +kernel
theorem dX4_agreeWith_53 : decode cX4_agreeWith 53 = .ok (.ifCond .eq 9, 3) := by decide +kernel
theorem dX4_agreeWith_56 : decode cX4_agreeWith 56 = .ok (.iinc 2 1, 3) := by decide +kernel
theorem dX4_agreeWith_59 : decode cX4_agreeWith 59 = .ok (.goto (-20), 3) := by decide +kernel
theorem dX4_agreeWith_62 : decode cX4_agreeWith 62 = .ok (.aload_n 0, 1) := by decide +kernel
theorem dX4_agreeWith_63 : decode cX4_agreeWith 63 = .ok (.iload_n 2, 1) := by decide +kernel
theorem dX4_agreeWith_64 : decode cX4_agreeWith 64 = .ok (.putfield 21, 3) := by decide +kernel
theorem dX4_agreeWith_67 : decode cX4_agreeWith 67 = .ok (.aload_n 0, 1) := by decide +kernel
theorem dX4_agreeWith_68 : decode cX4_agreeWith 68 = .ok (.aload_n 0, 1) := by decide +kernel
theorem dX4_agreeWith_69 : decode cX4_agreeWith 69 = .ok (.getfield 27, 3) := by decide +kernel
theorem dX4_agreeWith_72 : decode cX4_agreeWith 72 = .ok (.aload_n 0, 1) := by decide +kernel
theorem dX4_agreeWith_73 : decode cX4_agreeWith 73 = .ok (.getfield 21, 3) := by decide +kernel
theorem dX4_agreeWith_76 : decode cX4_agreeWith 76 = .ok (.invokestatic 49, 3) := by decide +kernel
theorem dX4_agreeWith_79 : decode cX4_agreeWith 79 = .ok (.putfield 27, 3) := by decide +kernel
theorem dX4_agreeWith_82 : decode cX4_agreeWith 82 = .ok (.return_, 1) := by decide +kernel
set_option maxRecDepth 20000 in
theorem ggX4_hasSameEpoch_X4_entryAt : GoodIn wsX4_hasSameEpoch wsX4_entryAt := goodIn_r _ [6, 7, 8, 9, 10, 11, 12, 13, 22, 23, 24, 25, 26, 27, 28] (by decide +kernel) (by decide +kernel)
set_option maxRecDepth 20000 in
theorem gX4_hasSameEpoch_X4_entryAt : GoodIn wsX4_hasSameEpoch (wsV RX4 52 RX4 yX4_entryAt wsX4_entryAt) := goodIn_app (goodIn_of _ (by decide +kernel)) ggX4_hasSameEpoch_X4_entryAt
theorem dX4_hasSameEpoch_0 : decode cX4_hasSameEpoch 0 = .ok (.aload_n 0, 1) := by decide +kernel
theorem dX4_hasSameEpoch_1 : decode cX4_hasSameEpoch 1 = .ok (.iload_n 1, 1) := by decide +kernel
theorem dX4_hasSameEpoch_2 : decode cX4_hasSameEpoch 2 = .ok (.invokevirtual 52, 3) := by decide +kernel
theorem dX4_hasSameEpoch_5 : decode cX4_hasSameEpoch 5 = .ok (.astore_n 3, 1) := by decide +kernel
theorem dX4_hasSameEpoch_6 : decode cX4_hasSameEpoch 6 = .ok (.aload_n 2, 1) := by decide +kernel
theorem dX4_hasSameEpoch_7 : decode cX4_hasSameEpoch 7 = .ok (.iload_n 1, 1) := by decide +kernel
theorem dX4_hasSameEpoch_8 : decode cX4_hasSameEpoch 8 = .ok (.invokevirtual 52, 3) := by decide +kernel
theorem dX4_hasSameEpoch_11 : decode cX4_hasSameEpoch 11 = .ok (.astore 4, 2) := by decide +kernel
theorem dX4_hasSameEpoch_13 : decode cX4_hasSameEpoch 13 = .ok (.aload_n 3, 1) := by decide +kernel
theorem dX4_hasSameEpoch_14 : decode cX4_hasSameEpoch 14 = .ok (.ifnull 24, 3) := by decide +kernel
theorem dX4_hasSameEpoch_17 : decode cX4_hasSameEpoch 17 = .ok (.aload 4, 2) := by decide +kernel
theorem dX4_hasSameEpoch_19 : decode cX4_hasSameEpoch 19 = .ok (.ifnull 19, 3) := by decide +kernel
theorem dX4_hasSameEpoch_22 : decode cX4_hasSameEpoch 22 = .ok (.aload_n 3, 1) := by decide +kernel
theorem dX4_hasSameEpoch_23 : decode cX4_hasSameEpoch 23 = .ok (.getfield 67, 3) := by decide +kernel
theorem dX4_hasSameEpoch_26 : decode cX4_hasSameEpoch 26 = .ok (.aload 4, 2) := by decide +kernel
theorem dX4_hasSameEpoch_28 : decode cX4_hasSameEpoch 28 = .ok (.getfield 67, 3) := by decide +kernel
theorem dX4_hasSameEpoch_31 : decode cX4_hasSameEpoch 31 = .ok (.if_icmp .ne 7, 3) := by decide +kernel
theorem dX4_hasSameEpoch_34 : decode cX4_hasSameEpoch 34 = .ok (.iconst 1, 1) := by decide +kernel
theorem dX4_hasSameEpoch_35 : decode cX4_hasSameEpoch 35 = .ok (.goto 4, 3) := by decide +kernel
theorem dX4_hasSameEpoch_38 : decode cX4_hasSameEpoch 38 = .ok (.iconst 0, 1) := by decide +kernel
theorem dX4_hasSameEpoch_39 : decode cX4_hasSameEpoch 39 = .ok (.ireturn, 1) := by decide +kernel
set_option maxRecDepth 20000 in
theorem ggX4_fetchFrom_X4_dropBefore : GoodIn wsX4_fetchFrom wsX4_dropBefore := goodIn_r _ [12, 1, 13, 14, 6, 15, 16, 30, 31, 32, 33, 34, 35, 36] (by decide +kernel) (by decide +kernel)
set_option maxRecDepth 20000 in
theorem gX4_fetchFrom_X4_dropBefore : GoodIn wsX4_fetchFrom (wsV RX4 70 RX4 yX4_dropBefore wsX4_dropBefore) := goodIn_app (goodIn_of _ (by decide +kernel)) ggX4_fetchFrom_X4_dropBefore
set_option maxRecDepth 20000 in
theorem ggX4_fetchFrom_X4_entryAt : GoodIn wsX4_fetchFrom wsX4_entryAt := goodIn_r _ [20, 1, 2, 21, 22, 23, 24, 25, 30, 31, 32, 33, 34, 35, 36] (by decide +kernel) (by decide +kernel)
set_option maxRecDepth 20000 in
theorem gX4_fetchFrom_X4_entryAt : GoodIn wsX4_fetchFrom (wsV RX4 52 RX4 yX4_entryAt wsX4_entryAt) := goodIn_app (goodIn_of _ (by decide +kernel)) ggX4_fetchFrom_X4_entryAt
set_option maxRecDepth 20000 in
theorem ggX4_fetchFrom_X4_append : GoodIn wsX4_fetchFrom wsX4_append := goodIn_r _ [29, 21, 2, 22, 23, 24, 25, 30, 31, 32, 33, 34, 35, 36] (by decide +kernel) (by decide +kernel)
set_option maxRecDepth 20000 in
theorem gX4_fetchFrom_X4_append : GoodIn wsX4_fetchFrom (wsV RX4 74 RX4 yX4_append wsX4_append) := goodIn_app (goodIn_of _ (by decide +kernel)) ggX4_fetchFrom_X4_append
theorem dX4_fetchFrom_0 : decode cX4_fetchFrom 0 = .ok (.aload_n 0, 1) := by decide +kernel
theorem dX4_fetchFrom_1 : decode cX4_fetchFrom 1 = .ok (.aload_n 1, 1) := by decide +kernel
theorem dX4_fetchFrom_2 : decode cX4_fetchFrom 2 = .ok (.getfield 17, 3) := by decide +kernel
theorem dX4_fetchFrom_5 : decode cX4_fetchFrom 5 = .ok (.invokevirtual 70, 3) := by decide +kernel
theorem dX4_fetchFrom_8 : decode cX4_fetchFrom 8 = .ok (.iconst 0, 1) := by decide +kernel
theorem dX4_fetchFrom_9 : decode cX4_fetchFrom 9 = .ok (.istore_n 2, 1) := by decide +kernel
theorem dX4_fetchFrom_10 : decode cX4_fetchFrom 10 = .ok (.iload_n 2, 1) := by decide +kernel
theorem dX4_fetchFrom_11 : decode cX4_fetchFrom 11 = .ok (.iconst 5, 1) := by decide +kernel
theorem dX4_fetchFrom_12 : decode cX4_fetchFrom 12 = .ok (.if_icmp .ge 32, 3) := by decide +kernel
theorem dX4_fetchFrom_15 : decode cX4_fetchFrom 15 = .ok (.aload_n 0, 1) := by decide +kernel
theorem dX4_fetchFrom_16 : decode cX4_fetchFrom 16 = .ok (.getfield 21, 3) := by decide +kernel
theorem dX4_fetchFrom_19 : decode cX4_fetchFrom 19 = .ok (.aload_n 1, 1) := by decide +kernel
theorem dX4_fetchFrom_20 : decode cX4_fetchFrom 20 = .ok (.getfield 21, 3) := by decide +kernel
theorem dX4_fetchFrom_23 : decode cX4_fetchFrom 23 = .ok (.if_icmp .ge 21, 3) := by decide +kernel
theorem dX4_fetchFrom_26 : decode cX4_fetchFrom 26 = .ok (.aload_n 0, 1) := by decide +kernel
theorem dX4_fetchFrom_27 : decode cX4_fetchFrom 27 = .ok (.aload_n 1, 1) := by decide +kernel
theorem dX4_fetchFrom_28 : decode cX4_fetchFrom 28 = .ok (.aload_n 0, 1) := by decide +kernel
theorem dX4_fetchFrom_29 : decode cX4_fetchFrom 29 = .ok (.getfield 21, 3) := by decide +kernel
theorem dX4_fetchFrom_32 : decode cX4_fetchFrom 32 = .ok (.invokevirtual 52, 3) := by decide +kernel
theorem dX4_fetchFrom_35 : decode cX4_fetchFrom 35 = .ok (.invokevirtual 74, 3) := by decide +kernel
theorem dX4_fetchFrom_38 : decode cX4_fetchFrom 38 = .ok (.iinc 2 1, 3) := by decide +kernel
theorem dX4_fetchFrom_41 : decode cX4_fetchFrom 41 = .ok (.goto (-31), 3) := by decide +kernel
theorem dX4_fetchFrom_44 : decode cX4_fetchFrom 44 = .ok (.aload_n 0, 1) := by decide +kernel
theorem dX4_fetchFrom_45 : decode cX4_fetchFrom 45 = .ok (.aload_n 1, 1) := by decide +kernel
theorem dX4_fetchFrom_46 : decode cX4_fetchFrom 46 = .ok (.getfield 24, 3) := by decide +kernel
theorem dX4_fetchFrom_49 : decode cX4_fetchFrom 49 = .ok (.aload_n 0, 1) := by decide +kernel
theorem dX4_fetchFrom_50 : decode cX4_fetchFrom 50 = .ok (.getfield 21, 3) := by decide +kernel
theorem dX4_fetchFrom_53 : decode cX4_fetchFrom 53 = .ok (.invokestatic 49, 3) := by decide +kernel
theorem dX4_fetchFrom_56 : decode cX4_fetchFrom 56 = .ok (.putfield 24, 3) := by decide +kernel
theorem dX4_fetchFrom_59 : decode cX4_fetchFrom 59 = .ok (.iload_n 2, 1) := by decide +kernel
theorem dX4_fetchFrom_60 : decode cX4_fetchFrom 60 = .ok (.ireturn, 1) := by decide +kernel
set_option maxRecDepth 20000 in
theorem ggX4_endKindOf_X4_entryAt : GoodIn wsX4_endKindOf wsX4_entryAt := goodIn_r _ [7, 8, 1, 9, 10, 11, 12, 13, 22, 23, 24, 25, 26, 27, 28] (by decide +kernel) (by decide +kernel)
set_option maxRecDepth 20000 in
theorem gX4_endKindOf_X4_entryAt : GoodIn wsX4_endKindOf (wsV RX4 52 RX4 yX4_entryAt wsX4_entryAt) := goodIn_app (goodIn_of _ (by decide +kernel)) ggX4_endKindOf_X4_entryAt
set_option maxRecDepth 20000 in
theorem ggX4_endKindOf_X0_isEndOf : GoodIn wsX4_endKindOf wsX0_isEndOf := goodIn_r _ [18, 19, 20, 21, 29, 30, 31, 32, 33, 34, 35, 36] (by decide +kernel) (by decide +kernel)
set_option maxRecDepth 20000 in
theorem gX4_endKindOf_X0_isEndOf : GoodIn wsX4_endKindOf (wsV RX4 78 RX0 yX0_isEndOf wsX0_isEndOf) := goodIn_app (goodIn_of _ (by decide +kernel)) ggX4_endKindOf_X0_isEndOf
theorem dX4_endKindOf_0 : decode cX4_endKindOf 0 = .ok (.iload_n 2, 1) := by decide +kernel
theorem dX4_endKindOf_1 : decode cX4_endKindOf 1 = .ok (.iconst 1, 1) := by decide +kernel
theorem dX4_endKindOf_2 : decode cX4_endKindOf 2 = .ok (.iadd, 1) := by decide +kernel
theorem dX4_endKindOf_3 : decode cX4_endKindOf 3 = .ok (.istore_n 3, 1) := by decide +kernel
theorem dX4_endKindOf_4 : decode cX4_endKindOf 4 = .ok (.iload_n 3, 1) := by decide +kernel
theorem dX4_endKindOf_5 : decode cX4_endKindOf 5 = .ok (.aload_n 0, 1) := by decide +kernel
theorem dX4_endKindOf_6 : decode cX4_endKindOf 6 = .ok (.getfield 21, 3) := by decide +kernel
theorem dX4_endKindOf_9 : decode cX4_endKindOf 9 = .ok (.if_icmp .ge 36, 3) := by decide +kernel
theorem dX4_endKindOf_12 : decode cX4_endKindOf 12 = .ok (.aload_n 0, 1) := by decide +kernel
theorem dX4_endKindOf_13 : decode cX4_endKindOf 13 = .ok (.iload_n 3, 1) := by decide +kernel
theorem dX4_endKindOf_14 : decode cX4_endKindOf 14 = .ok (.invokevirtual 52, 3) := by decide +kernel
theorem dX4_endKindOf_17 : decode cX4_endKindOf 17 = .ok (.astore 4, 2) := by decide +kernel
theorem dX4_endKindOf_19 : decode cX4_endKindOf 19 = .ok (.aload 4, 2) := by decide +kernel
theorem dX4_endKindOf_21 : decode cX4_endKindOf 21 = .ok (.ifnull 18, 3) := by decide +kernel
theorem dX4_endKindOf_24 : decode cX4_endKindOf 24 = .ok (.aload 4, 2) := by decide +kernel
theorem dX4_endKindOf_26 : decode cX4_endKindOf 26 = .ok (.aload_n 1, 1) := by decide +kernel
theorem dX4_endKindOf_27 : decode cX4_endKindOf 27 = .ok (.invokevirtual 78, 3) := by decide +kernel
theorem dX4_endKindOf_30 : decode cX4_endKindOf 30 = .ok (.ifCond .eq 9, 3) := by decide +kernel
theorem dX4_endKindOf_33 : decode cX4_endKindOf 33 = .ok (.aload 4, 2) := by decide +kernel
theorem dX4_endKindOf_35 : decode cX4_endKindOf 35 = .ok (.getfield 82, 3) := by decide +kernel
theorem dX4_endKindOf_38 : decode cX4_endKindOf 38 = .ok (.ireturn, 1) := by decide +kernel
theorem dX4_endKindOf_39 : decode cX4_endKindOf 39 = .ok (.iinc 3 1, 3) := by decide +kernel
theorem dX4_endKindOf_42 : decode cX4_endKindOf 42 = .ok (.goto (-38), 3) := by decide +kernel
theorem dX4_endKindOf_45 : decode cX4_endKindOf 45 = .ok (.iconst 0, 1) := by decide +kernel
theorem dX4_endKindOf_46 : decode cX4_endKindOf 46 = .ok (.ireturn, 1) := by decide +kernel
set_option maxRecDepth 20000 in
theorem ggX4_firstOpen_X4_entryAt : GoodIn wsX4_firstOpen wsX4_entryAt := goodIn_r _ [8, 1, 2, 9, 10, 11, 12, 13, 27, 28, 29, 30, 31, 32, 33] (by decide +kernel) (by decide +kernel)
set_option maxRecDepth 20000 in
theorem gX4_firstOpen_X4_entryAt : GoodIn wsX4_firstOpen (wsV RX4 52 RX4 yX4_entryAt wsX4_entryAt) := goodIn_app (goodIn_of _ (by decide +kernel)) ggX4_firstOpen_X4_entryAt
set_option maxRecDepth 20000 in
theorem ggX4_firstOpen_X4_endKindOf : GoodIn wsX4_firstOpen wsX4_endKindOf := goodIn_r _ [17, 2, 18, 4, 5, 6, 7, 8, 1, 9, 10, 11, 12, 13, 19, 20, 21, 22, 23, 24, 25, 26, 27, 28, 29, 30, 31, 32, 33, 34, 35, 36, 37, 38, 39, 40, 41] (by decide +kernel) (by decide +kernel)
set_option maxRecDepth 20000 in
theorem gX4_firstOpen_X4_endKindOf : GoodIn wsX4_firstOpen (wsV RX4 89 RX4 yX4_endKindOf wsX4_endKindOf) := goodIn_app (goodIn_of _ (by decide +kernel)) ggX4_firstOpen_X4_endKindOf
theorem dX4_firstOpen_0 : decode cX4_firstOpen 0 = .ok (.aload_n 0, 1) := by decide +kernel
theorem dX4_firstOpen_1 : decode cX4_firstOpen 1 = .ok (.getfield 17, 3) := by decide +kernel
theorem dX4_firstOpen_4 : decode cX4_firstOpen 4 = .ok (.istore_n 1, 1) := by decide +kernel
theorem dX4_firstOpen_5 : decode cX4_firstOpen 5 = .ok (.iload_n 1, 1) := by decide +kernel
theorem dX4_firstOpen_6 : decode cX4_firstOpen 6 = .ok (.aload_n 0, 1) := by decide +kernel
theorem dX4_firstOpen_7 : decode cX4_firstOpen 7 = .ok (.getfield 21, 3) := by decide +kernel
theorem dX4_firstOpen_10 : decode cX4_firstOpen 10 = .ok (.if_icmp .ge 37, 3) := by decide +kernel
theorem dX4_firstOpen_13 : decode cX4_firstOpen 13 = .ok (.aload_n 0, 1) := by decide +kernel
theorem dX4_firstOpen_14 : decode cX4_firstOpen 14 = .ok (.iload_n 1, 1) := by decide +kernel
theorem dX4_firstOpen_15 : decode cX4_firstOpen 15 = .ok (.invokevirtual 52, 3) := by decide +kernel
theorem dX4_firstOpen_18 : decode cX4_firstOpen 18 = .ok (.astore_n 2, 1) := by decide +kernel
theorem dX4_firstOpen_19 : decode cX4_firstOpen 19 = .ok (.aload_n 2, 1) := by decide +kernel
theorem dX4_firstOpen_20 : decode cX4_firstOpen 20 = .ok (.ifnull 21, 3) := by decide +kernel
theorem dX4_firstOpen_23 : decode cX4_firstOpen 23 = .ok (.aload_n 2, 1) := by decide +kernel
theorem dX4_firstOpen_24 : decode cX4_firstOpen 24 = .ok (.getfield 85, 3) := by decide +kernel
theorem dX4_firstOpen_27 : decode cX4_firstOpen 27 = .ok (.ifCond .eq 14, 3) := by decide +kernel
theorem dX4_firstOpen_30 : decode cX4_firstOpen 30 = .ok (.aload_n 0, 1) := by decide +kernel
theorem dX4_firstOpen_31 : decode cX4_firstOpen 31 = .ok (.aload_n 2, 1) := by decide +kernel
theorem dX4_firstOpen_32 : decode cX4_firstOpen 32 = .ok (.iload_n 1, 1) := by decide +kernel
theorem dX4_firstOpen_33 : decode cX4_firstOpen 33 = .ok (.invokevirtual 89, 3) := by decide +kernel
theorem dX4_firstOpen_36 : decode cX4_firstOpen 36 = .ok (.ifCond .ne 5, 3) := by decide +kernel
theorem dX4_firstOpen_39 : decode cX4_firstOpen 39 = .ok (.iload_n 1, 1) := by decide +kernel
theorem dX4_firstOpen_40 : decode cX4_firstOpen 40 = .ok (.ireturn, 1) := by decide +kernel
theorem dX4_firstOpen_41 : decode cX4_firstOpen 41 = .ok (.iinc 1 1, 3) := by decide +kernel
theorem dX4_firstOpen_44 : decode cX4_firstOpen 44 = .ok (.goto (-39), 3) := by decide +kernel
theorem dX4_firstOpen_47 : decode cX4_firstOpen 47 = .ok (.aload_n 0, 1) := by decide +kernel
theorem dX4_firstOpen_48 : decode cX4_firstOpen 48 = .ok (.getfield 21, 3) := by decide +kernel
theorem dX4_firstOpen_51 : decode cX4_firstOpen 51 = .ok (.ireturn, 1) := by decide +kernel
set_option maxRecDepth 20000 in
theorem ggX4_firstVisible_X4_firstOpen : GoodIn wsX4_firstVisible wsX4_firstOpen := goodIn_r _ [11, 12, 13, 14, 15, 16, 17, 10, 18, 19, 20, 21, 22, 23, 24, 25, 26, 27, 6, 28, 29, 30, 31, 32, 33, 34, 35, 40, 41, 42, 43, 44, 45, 46, 47, 48, 49, 50, 51, 52, 53, 54] (by decide +kernel) (by decide +kernel)
set_option maxRecDepth 20000 in
theorem gX4_firstVisible_X4_firstOpen : GoodIn wsX4_firstVisible (wsV RX4 93 RX4 yX4_firstOpen wsX4_firstOpen) := goodIn_app (goodIn_of _ (by decide +kernel)) ggX4_firstVisible_X4_firstOpen
set_option maxRecDepth 20000 in
theorem ggX4_firstVisible_X4_entryAt : GoodIn wsX4_firstVisible wsX4_entryAt := goodIn_r _ [18, 12, 13, 19, 20, 21, 22, 23, 40, 41, 42, 43, 44, 45, 46] (by decide +kernel) (by decide +kernel)
set_option maxRecDepth 20000 in
theorem gX4_firstVisible_X4_entryAt : GoodIn wsX4_firstVisible (wsV RX4 52 RX4 yX4_entryAt wsX4_entryAt) := goodIn_app (goodIn_of _ (by decide +kernel)) ggX4_firstVisible_X4_entryAt
set_option maxRecDepth 20000 in
theorem ggX4_firstVisible_X4_isAborted : GoodIn wsX4_firstVisible wsX4_isAborted := goodIn_r _ [39, 14, 24, 25, 26, 10, 27, 13, 6, 15, 16, 17, 18, 12, 19, 20, 21, 22, 23, 28, 29, 30, 31, 32, 33, 34, 35, 47, 48, 49, 50, 51, 52, 53, 54, 40, 41, 42, 43, 44, 45, 46] (by decide +kernel) (by decide +kernel)
set_option maxRecDepth 20000 in
theorem gX4_firstVisible_X4_isAborted : GoodIn wsX4_firstVisible (wsV RX4 96 RX4 yX4_isAborted wsX4_isAborted) := goodIn_app (goodIn_of _ (by decide +kernel)) ggX4_firstVisible_X4_isAborted
theorem dX4_firstVisible_0 : decode cX4_firstVisible 0 = .ok (.iload_n 2, 1) := by decide +kernel
theorem dX4_firstVisible_1 : decode cX4_firstVisible 1 = .ok (.ifCond .eq 17, 3) := by decide +kernel
theorem dX4_firstVisible_4 : decode cX4_firstVisible 4 = .ok (.aload_n 0, 1) := by decide +kernel
theorem dX4_firstVisible_5 : decode cX4_firstVisible 5 = .ok (.getfield 24, 3) := by decide +kernel
theorem dX4_firstVisible_8 : decode cX4_firstVisible 8 = .ok (.aload_n 0, 1) := by decide +kernel
theorem dX4_firstVisible_9 : decode cX4_firstVisible 9 = .ok (.invokevirtual 93, 3) := by decide +kernel
theorem dX4_firstVisible_12 : decode cX4_firstVisible 12 = .ok (.invokestatic 49, 3) := by decide +kernel
theorem dX4_firstVisible_15 : decode cX4_firstVisible 15 = .ok (.goto 7, 3) := by decide +kernel
theorem dX4_firstVisible_18 : decode cX4_firstVisible 18 = .ok (.aload_n 0, 1) := by decide +kernel
theorem dX4_firstVisible_19 : decode cX4_firstVisible 19 = .ok (.getfield 24, 3) := by decide +kernel
theorem dX4_firstVisible_22 : decode cX4_firstVisible 22 = .ok (.istore_n 3, 1) := by decide +kernel
theorem dX4_firstVisible_23 : decode cX4_firstVisible 23 = .ok (.iload_n 1, 1) := by decide +kernel
theorem dX4_firstVisible_24 : decode cX4_firstVisible 24 = .ok (.istore 4, 2) := by decide +kernel
theorem dX4_firstVisible_26 : decode cX4_firstVisible 26 = .ok (.iload 4, 2) := by decide +kernel
theorem dX4_firstVisible_28 : decode cX4_firstVisible 28 = .ok (.iload_n 3, 1) := by decide +kernel
theorem dX4_firstVisible_29 : decode cX4_firstVisible 29 = .ok (.if_icmp .ge 48, 3) := by decide +kernel
theorem dX4_firstVisible_32 : decode cX4_firstVisible 32 = .ok (.aload_n 0, 1) := by decide +kernel
theorem dX4_firstVisible_33 : decode cX4_firstVisible 33 = .ok (.iload 4, 2) := by decide +kernel
theorem dX4_firstVisible_35 : decode cX4_firstVisible 35 = .ok (.invokevirtual 52, 3) := by decide +kernel
theorem dX4_firstVisible_38 : decode cX4_firstVisible 38 = .ok (.astore 5, 2) := by decide +kernel
theorem dX4_firstVisible_40 : decode cX4_firstVisible 40 = .ok (.aload 5, 2) := by decide +kernel
theorem dX4_firstVisible_42 : decode cX4_firstVisible 42 = .ok (.ifnull 29, 3) := by decide +kernel
theorem dX4_firstVisible_45 : decode cX4_firstVisible 45 = .ok (.aload 5, 2) := by decide +kernel
theorem dX4_firstVisible_47 : decode cX4_firstVisible 47 = .ok (.getfield 82, 3) := by decide +kernel
theorem dX4_firstVisible_50 : decode cX4_firstVisible 50 = .ok (.ifCond .ne 21, 3) := by decide +kernel
theorem dX4_firstVisible_53 : decode cX4_firstVisible 53 = .ok (.iload_n 2, 1) := by decide +kernel
theorem dX4_firstVisible_54 : decode cX4_firstVisible 54 = .ok (.ifCond .eq 14, 3) := by decide +kernel
theorem dX4_firstVisible_57 : decode cX4_firstVisible 57 = .ok (.aload_n 0, 1) := by decide +kernel
theorem dX4_firstVisible_58 : decode cX4_firstVisible 58 = .ok (.aload 5, 2) := by decide +kernel
theorem dX4_firstVisible_60 : decode cX4_firstVisible 60 = .ok (.iload 4, 2) := by decide +kernel
theorem dX4_firstVisible_62 : decode cX4_firstVisible 62 = .ok (.invokevirtual 96, 3) := by decide +kernel
theorem dX4_firstVisible_65 : decode cX4_firstVisible 65 = .ok (.ifCond .ne 6, 3) := by decide +kernel
theorem dX4_firstVisible_68 : decode cX4_firstVisible 68 = .ok (.iload 4, 2) := by decide +kernel
theorem dX4_firstVisible_70 : decode cX4_firstVisible 70 = .ok (.ireturn, 1) := by decide +kernel
theorem dX4_firstVisible_71 : decode cX4_firstVisible 71 = .ok (.iinc 4 1, 3) := by decide +kernel
theorem dX4_firstVisible_74 : decode cX4_firstVisible 74 = .ok (.goto (-48), 3) := by decide +kernel
theorem dX4_firstVisible_77 : decode cX4_firstVisible 77 = .ok (.iconst (-1), 1) := by decide +kernel
theorem dX4_firstVisible_78 : decode cX4_firstVisible 78 = .ok (.ireturn, 1) := by decide +kernel
set_option maxRecDepth 20000 in
theorem ggX4_isAborted_X4_endKindOf : GoodIn wsX4_isAborted wsX4_endKindOf := goodIn_r _ [6, 7, 8, 9, 10, 11, 5, 12, 13, 14, 15, 16, 17, 18, 19, 20, 21, 22, 23, 24, 25, 26, 35, 36, 37, 38, 39, 40, 41, 27, 28, 29, 30, 31, 32, 33, 34] (by decide +kernel) (by decide +kernel)
set_option maxRecDepth 20000 in
theorem gX4_isAborted_X4_endKindOf : GoodIn wsX4_isAborted (wsV RX4 89 RX4 yX4_endKindOf wsX4_endKindOf) := goodIn_app (goodIn_of _ (by decide +kernel)) ggX4_isAborted_X4_endKindOf
theorem dX4_isAborted_0 : decode cX4_isAborted 0 = .ok (.aload_n 1, 1) := by decide +kernel
theorem dX4_isAborted_1 : decode cX4_isAborted 1 = .ok (.getfield 85, 3) := by decide +kernel
theorem dX4_isAborted_4 : decode cX4_isAborted 4 = .ok (.ifCond .eq 17, 3) := by decide +kernel
theorem dX4_isAborted_7 : decode cX4_isAborted 7 = .ok (.aload_n 0, 1) := by decide +kernel
theorem dX4_isAborted_8 : decode cX4_isAborted 8 = .ok (.aload_n 1, 1) := by decide +kernel
theorem dX4_isAborted_9 : decode cX4_isAborted 9 = .ok (.iload_n 2, 1) := by decide +kernel
theorem dX4_isAborted_10 : decode cX4_isAborted 10 = .ok (.invokevirtual 89, 3) := by decide +kernel
theorem dX4_isAborted_13 : decode cX4_isAborted 13 = .ok (.iconst 2, 1) := by decide +kernel
theorem dX4_isAborted_14 : decode cX4_isAborted 14 = .ok (.if_icmp .ne 7, 3) := by decide +kernel
theorem dX4_isAborted_17 : decode cX4_isAborted 17 = .ok (.iconst 1, 1) := by decide +kernel
theorem dX4_isAborted_18 : decode cX4_isAborted 18 = .ok (.goto 4, 3) := by decide +kernel
theorem dX4_isAborted_21 : decode cX4_isAborted 21 = .ok (.iconst 0, 1) := by decide +kernel
theorem dX4_isAborted_22 : decode cX4_isAborted 22 = .ok (.ireturn, 1) := by decide +kernel
theorem dX6_init_0 : decode cX6_init 0 = .ok (.aload_n 0, 1) := by decide +kernel
theorem dX6_init_1 : decode cX6_init 1 = .ok (.invokespecial 3, 3) := by decide +kernel
theorem dX6_init_4 : decode cX6_init 4 = .ok (.aload_n 0, 1) := by decide +kernel
theorem dX6_init_5 : decode cX6_init 5 = .ok (.sipush 640, 3) := by decide +kernel
theorem dX6_init_8 : decode cX6_init 8 = .ok (.newarray .int, 2) := by decide +kernel
theorem dX6_init_10 : decode cX6_init 10 = .ok (.putfield 9, 3) := by decide +kernel
theorem dX6_init_13 : decode cX6_init 13 = .ok (.return_, 1) := by decide +kernel
theorem dX6_get_0 : decode cX6_get 0 = .ok (.aload_n 0, 1) := by decide +kernel
theorem dX6_get_1 : decode cX6_get 1 = .ok (.getfield 9, 3) := by decide +kernel
theorem dX6_get_4 : decode cX6_get 4 = .ok (.bipush 8, 2) := by decide +kernel
theorem dX6_get_6 : decode cX6_get 6 = .ok (.iload_n 1, 1) := by decide +kernel
theorem dX6_get_7 : decode cX6_get 7 = .ok (.aload_n 0, 1) := by decide +kernel
theorem dX6_get_8 : decode cX6_get 8 = .ok (.getfield 15, 3) := by decide +kernel
theorem dX6_get_11 : decode cX6_get 11 = .ok (.isub, 1) := by decide +kernel
theorem dX6_get_12 : decode cX6_get 12 = .ok (.imul, 1) := by decide +kernel
theorem dX6_get_13 : decode cX6_get 13 = .ok (.iload_n 2, 1) := by decide +kernel
theorem dX6_get_14 : decode cX6_get 14 = .ok (.iadd, 1) := by decide +kernel
theorem dX6_get_15 : decode cX6_get 15 = .ok (.iaload, 1) := by decide +kernel
theorem dX6_get_16 : decode cX6_get 16 = .ok (.ireturn, 1) := by decide +kernel
theorem dX6_many_0 : decode cX6_many 0 = .ok (.aload_n 0, 1) := by decide +kernel
theorem dX6_many_1 : decode cX6_many 1 = .ok (.getfield 19, 3) := by decide +kernel
theorem dX6_many_4 : decode cX6_many 4 = .ok (.aload_n 0, 1) := by decide +kernel
theorem dX6_many_5 : decode cX6_many 5 = .ok (.getfield 15, 3) := by decide +kernel
theorem dX6_many_8 : decode cX6_many 8 = .ok (.isub, 1) := by decide +kernel
theorem dX6_many_9 : decode cX6_many 9 = .ok (.ireturn, 1) := by decide +kernel
theorem dX6_from_0 : decode cX6_from 0 = .ok (.iload_n 1, 1) := by decide +kernel
theorem dX6_from_1 : decode cX6_from 1 = .ok (.aload_n 0, 1) := by decide +kernel
theorem dX6_from_2 : decode cX6_from 2 = .ok (.getfield 15, 3) := by decide +kernel
theorem dX6_from_5 : decode cX6_from 5 = .ok (.if_icmp .gt 4, 3) := by decide +kernel
theorem dX6_from_8 : decode cX6_from 8 = .ok (.return_, 1) := by decide +kernel
theorem dX6_from_9 : decode cX6_from 9 = .ok (.iload_n 1, 1) := by decide +kernel
theorem dX6_from_10 : decode cX6_from 10 = .ok (.aload_n 0, 1) := by decide +kernel
theorem dX6_from_11 : decode cX6_from 11 = .ok (.getfield 19, 3) := by decide +kernel
theorem dX6_from_14 : decode cX6_from 14 = .ok (.if_icmp .lt 14, 3) := by decide +kernel
theorem dX6_from_17 : decode cX6_from 17 = .ok (.aload_n 0, 1) := by decide +kernel
theorem dX6_from_18 : decode cX6_from 18 = .ok (.iload_n 1, 1) := by decide +kernel
theorem dX6_from_19 : decode cX6_from 19 = .ok (.putfield 15, 3) := by decide +kernel
theorem dX6_from_22 : decode cX6_from 22 = .ok (.aload_n 0, 1) := by decide +kernel
theorem dX6_from_23 : decode cX6_from 23 = .ok (.iload_n 1, 1) := by decide +kernel
theorem dX6_from_24 : decode cX6_from 24 = .ok (.putfield 19, 3) := by decide +kernel
theorem dX6_from_27 : decode cX6_from 27 = .ok (.return_, 1) := by decide +kernel
theorem dX6_from_28 : decode cX6_from 28 = .ok (.aload_n 0, 1) := by decide +kernel
theorem dX6_from_29 : decode cX6_from 29 = .ok (.getfield 9, 3) := by decide +kernel
theorem dX6_from_32 : decode cX6_from 32 = .ok (.bipush 8, 2) := by decide +kernel
theorem dX6_from_34 : decode cX6_from 34 = .ok (.iload_n 1, 1) := by decide +kernel
theorem dX6_from_35 : decode cX6_from 35 = .ok (.aload_n 0, 1) := by decide +kernel
theorem dX6_from_36 : decode cX6_from 36 = .ok (.getfield 15, 3) := by decide +kernel
theorem dX6_from_39 : decode cX6_from 39 = .ok (.isub, 1) := by decide +kernel
theorem dX6_from_40 : decode cX6_from 40 = .ok (.imul, 1) := by decide +kernel
theorem dX6_from_41 : decode cX6_from 41 = .ok (.aload_n 0, 1) := by decide +kernel
theorem dX6_from_42 : decode cX6_from 42 = .ok (.getfield 9, 3) := by decide +kernel
theorem dX6_from_45 : decode cX6_from 45 = .ok (.iconst 0, 1) := by decide +kernel
theorem dX6_from_46 : decode cX6_from 46 = .ok (.bipush 8, 2) := by decide +kernel
theorem dX6_from_48 : decode cX6_from 48 = .ok (.aload_n 0, 1) := by decide +kernel
theorem dX6_from_49 : decode cX6_from 49 = .ok (.getfield 19, 3) := by decide +kernel
theorem dX6_from_52 : decode cX6_from 52 = .ok (.iload_n 1, 1) := by decide +kernel
theorem dX6_from_53 : decode cX6_from 53 = .ok (.isub, 1) := by decide +kernel
theorem dX6_from_54 : decode cX6_from 54 = .ok (.imul, 1) := by decide +kernel
theorem dX6_from_55 : decode cX6_from 55 = .ok (.invokestatic 22, 3) := by decide +kernel
theorem dX6_from_58 : decode cX6_from 58 = .ok (.aload_n 0, 1) := by decide +kernel
theorem dX6_from_59 : decode cX6_from 59 = .ok (.iload_n 1, 1) := by decide +kernel
theorem dX6_from_60 : decode cX6_from 60 = .ok (.putfield 15, 3) := by decide +kernel
theorem dX6_from_63 : decode cX6_from 63 = .ok (.return_, 1) := by decide +kernel
set_option maxRecDepth 20000 in
theorem ggX6_add_X6_many : GoodIn wsX6_add wsX6_many := goodIn_r _ [7, 2, 8, 9, 10, 11, 12, 13, 14, 15] (by decide +kernel) (by decide +kernel)
set_option maxRecDepth 20000 in
theorem gX6_add_X6_many : GoodIn wsX6_add (wsV RX6 28 RX6 yX6_many wsX6_many) := goodIn_app (goodIn_of _ (by decide +kernel)) ggX6_add_X6_many
theorem dX6_add_0 : decode cX6_add 0 = .ok (.bipush 8, 2) := by decide +kernel
theorem dX6_add_2 : decode cX6_add 2 = .ok (.aload_n 0, 1) := by decide +kernel
theorem dX6_add_3 : decode cX6_add 3 = .ok (.invokevirtual 28, 3) := by decide +kernel
theorem dX6_add_6 : decode cX6_add 6 = .ok (.imul, 1) := by decide +kernel
theorem dX6_add_7 : decode cX6_add 7 = .ok (.istore 9, 2) := by decide +kernel
theorem dX6_add_9 : decode cX6_add 9 = .ok (.aload_n 0, 1) := by decide +kernel
theorem dX6_add_10 : decode cX6_add 10 = .ok (.getfield 9, 3) := by decide +kernel
theorem dX6_add_13 : decode cX6_add 13 = .ok (.iload 9, 2) := by decide +kernel
theorem dX6_add_15 : decode cX6_add 15 = .ok (.iload_n 1, 1) := by decide +kernel
theorem dX6_add_16 : decode cX6_add 16 = .ok (.iastore, 1) := by decide +kernel
theorem dX6_add_17 : decode cX6_add 17 = .ok (.aload_n 0, 1) := by decide +kernel
theorem dX6_add_18 : decode cX6_add 18 = .ok (.getfield 9, 3) := by decide +kernel
theorem dX6_add_21 : decode cX6_add 21 = .ok (.iload 9, 2) := by decide +kernel
theorem dX6_add_23 : decode cX6_add 23 = .ok (.iconst 1, 1) := by decide +kernel
theorem dX6_add_24 : decode cX6_add 24 = .ok (.iadd, 1) := by decide +kernel
theorem dX6_add_25 : decode cX6_add 25 = .ok (.iload_n 2, 1) := by decide +kernel
theorem dX6_add_26 : decode cX6_add 26 = .ok (.iastore, 1) := by decide +kernel
theorem dX6_add_27 : decode cX6_add 27 = .ok (.aload_n 0, 1) := by decide +kernel
theorem dX6_add_28 : decode cX6_add 28 = .ok (.getfield 9, 3) := by decide +kernel
theorem dX6_add_31 : decode cX6_add 31 = .ok (.iload 9, 2) := by decide +kernel
theorem dX6_add_33 : decode cX6_add 33 = .ok (.iconst 2, 1) := by decide +kernel
theorem dX6_add_34 : decode cX6_add 34 = .ok (.iadd, 1) := by decide +kernel
theorem dX6_add_35 : decode cX6_add 35 = .ok (.iload_n 3, 1) := by decide +kernel
theorem dX6_add_36 : decode cX6_add 36 = .ok (.iastore, 1) := by decide +kernel
theorem dX6_add_37 : decode cX6_add 37 = .ok (.aload_n 0, 1) := by decide +kernel
theorem dX6_add_38 : decode cX6_add 38 = .ok (.getfield 9, 3) := by decide +kernel
theorem dX6_add_41 : decode cX6_add 41 = .ok (.iload 9, 2) := by decide +kernel
theorem dX6_add_43 : decode cX6_add 43 = .ok (.iconst 3, 1) := by decide +kernel
theorem dX6_add_44 : decode cX6_add 44 = .ok (.iadd, 1) := by decide +kernel
theorem dX6_add_45 : decode cX6_add 45 = .ok (.iload 4, 2) := by decide +kernel
theorem dX6_add_47 : decode cX6_add 47 = .ok (.iastore, 1) := by decide +kernel
theorem dX6_add_48 : decode cX6_add 48 = .ok (.aload_n 0, 1) := by decide +kernel
theorem dX6_add_49 : decode cX6_add 49 = .ok (.getfield 9, 3) := by decide +kernel
theorem dX6_add_52 : decode cX6_add 52 = .ok (.iload 9, 2) := by decide +kernel
theorem dX6_add_54 : decode cX6_add 54 = .ok (.iconst 4, 1) := by decide +kernel
theorem dX6_add_55 : decode cX6_add 55 = .ok (.iadd, 1) := by decide +kernel
theorem dX6_add_56 : decode cX6_add 56 = .ok (.iload 5, 2) := by decide +kernel
theorem dX6_add_58 : decode cX6_add 58 = .ok (.iastore, 1) := by decide +kernel
theorem dX6_add_59 : decode cX6_add 59 = .ok (.aload_n 0, 1) := by decide +kernel
theorem dX6_add_60 : decode cX6_add 60 = .ok (.getfield 9, 3) := by decide +kernel
theorem dX6_add_63 : decode cX6_add 63 = .ok (.iload 9, 2) := by decide +kernel
theorem dX6_add_65 : decode cX6_add 65 = .ok (.iconst 5, 1) := by decide +kernel
theorem dX6_add_66 : decode cX6_add 66 = .ok (.iadd, 1) := by decide +kernel
theorem dX6_add_67 : decode cX6_add 67 = .ok (.iload 6, 2) := by decide +kernel
theorem dX6_add_69 : decode cX6_add 69 = .ok (.iastore, 1) := by decide +kernel
theorem dX6_add_70 : decode cX6_add 70 = .ok (.aload_n 0, 1) := by decide +kernel
theorem dX6_add_71 : decode cX6_add 71 = .ok (.getfield 9, 3) := by decide +kernel
theorem dX6_add_74 : decode cX6_add 74 = .ok (.iload 9, 2) := by decide +kernel
theorem dX6_add_76 : decode cX6_add 76 = .ok (.bipush 6, 2) := by decide +kernel
theorem dX6_add_78 : decode cX6_add 78 = .ok (.iadd, 1) := by decide +kernel
theorem dX6_add_79 : decode cX6_add 79 = .ok (.iload 7, 2) := by decide +kernel
theorem dX6_add_81 : decode cX6_add 81 = .ok (.iastore, 1) := by decide +kernel
theorem dX6_add_82 : decode cX6_add 82 = .ok (.aload_n 0, 1) := by decide +kernel
theorem dX6_add_83 : decode cX6_add 83 = .ok (.getfield 9, 3) := by decide +kernel
theorem dX6_add_86 : decode cX6_add 86 = .ok (.iload 9, 2) := by decide +kernel
theorem dX6_add_88 : decode cX6_add 88 = .ok (.bipush 7, 2) := by decide +kernel
theorem dX6_add_90 : decode cX6_add 90 = .ok (.iadd, 1) := by decide +kernel
theorem dX6_add_91 : decode cX6_add 91 = .ok (.iload 8, 2) := by decide +kernel
theorem dX6_add_93 : decode cX6_add 93 = .ok (.iastore, 1) := by decide +kernel
theorem dX6_add_94 : decode cX6_add 94 = .ok (.aload_n 0, 1) := by decide +kernel
theorem dX6_add_95 : decode cX6_add 95 = .ok (.dup, 1) := by decide +kernel
theorem dX6_add_96 : decode cX6_add 96 = .ok (.getfield 19, 3) := by decide +kernel
theorem dX6_add_99 : decode cX6_add 99 = .ok (.iconst 1, 1) := by decide +kernel
theorem dX6_add_100 : decode cX6_add 100 = .ok (.iadd, 1) := by decide +kernel
theorem dX6_add_101 : decode cX6_add 101 = .ok (.putfield 19, 3) := by decide +kernel
theorem dX6_add_104 : decode cX6_add 104 = .ok (.return_, 1) := by decide +kernel
set_option maxRecDepth 20000 in
theorem ggX6_take_X6_many : GoodIn wsX6_take wsX6_many := goodIn_r _ [12, 7, 2, 13, 14, 15, 16, 17, 18, 19] (by decide +kernel) (by decide +kernel)
set_option maxRecDepth 20000 in
theorem gX6_take_X6_many : GoodIn wsX6_take (wsV RX6 28 RX6 yX6_many wsX6_many) := goodIn_app (goodIn_of _ (by decide +kernel)) ggX6_take_X6_many
theorem dX6_take_0 : decode cX6_take 0 = .ok (.aload_n 1, 1) := by decide +kernel
theorem dX6_take_1 : decode cX6_take 1 = .ok (.getfield 9, 3) := by decide +kernel
theorem dX6_take_4 : decode cX6_take 4 = .ok (.bipush 8, 2) := by decide +kernel
theorem dX6_take_6 : decode cX6_take 6 = .ok (.iload_n 2, 1) := by decide +kernel
theorem dX6_take_7 : decode cX6_take 7 = .ok (.aload_n 1, 1) := by decide +kernel
theorem dX6_take_8 : decode cX6_take 8 = .ok (.getfield 15, 3) := by decide +kernel
theorem dX6_take_11 : decode cX6_take 11 = .ok (.isub, 1) := by decide +kernel
theorem dX6_take_12 : decode cX6_take 12 = .ok (.imul, 1) := by decide +kernel
theorem dX6_take_13 : decode cX6_take 13 = .ok (.aload_n 0, 1) := by decide +kernel
theorem dX6_take_14 : decode cX6_take 14 = .ok (.getfield 9, 3) := by decide +kernel
theorem dX6_take_17 : decode cX6_take 17 = .ok (.bipush 8, 2) := by decide +kernel
theorem dX6_take_19 : decode cX6_take 19 = .ok (.aload_n 0, 1) := by decide +kernel
theorem dX6_take_20 : decode cX6_take 20 = .ok (.invokevirtual 28, 3) := by decide +kernel
theorem dX6_take_23 : decode cX6_take 23 = .ok (.imul, 1) := by decide +kernel
theorem dX6_take_24 : decode cX6_take 24 = .ok (.bipush 8, 2) := by decide +kernel
theorem dX6_take_26 : decode cX6_take 26 = .ok (.invokestatic 22, 3) := by decide +kernel
theorem dX6_take_29 : decode cX6_take 29 = .ok (.aload_n 0, 1) := by decide +kernel
theorem dX6_take_30 : decode cX6_take 30 = .ok (.dup, 1) := by decide +kernel
theorem dX6_take_31 : decode cX6_take 31 = .ok (.getfield 19, 3) := by decide +kernel
theorem dX6_take_34 : decode cX6_take 34 = .ok (.iconst 1, 1) := by decide +kernel
theorem dX6_take_35 : decode cX6_take 35 = .ok (.iadd, 1) := by decide +kernel
theorem dX6_take_36 : decode cX6_take 36 = .ok (.putfield 19, 3) := by decide +kernel
theorem dX6_take_39 : decode cX6_take 39 = .ok (.return_, 1) := by decide +kernel
theorem dJ6_numberOfTrailingZeros_0f7a4_0 : decode cJ6_numberOfTrailingZeros_0f7a4 0 = .ok (.iload_n 0, 1) := by decide +kernel
theorem dJ6_numberOfTrailingZeros_0f7a4_1 : decode cJ6_numberOfTrailingZeros_0f7a4 1 = .ok (.iconst (-1), 1) := by decide +kernel
theorem dJ6_numberOfTrailingZeros_0f7a4_2 : decode cJ6_numberOfTrailingZeros_0f7a4 2 = .ok (.ixor, 1) := by decide +kernel
theorem dJ6_numberOfTrailingZeros_0f7a4_3 : decode cJ6_numberOfTrailingZeros_0f7a4 3 = .ok (.iload_n 0, 1) := by decide +kernel
theorem dJ6_numberOfTrailingZeros_0f7a4_4 : decode cJ6_numberOfTrailingZeros_0f7a4 4 = .ok (.iconst 1, 1) := by decide +kernel
theorem dJ6_numberOfTrailingZeros_0f7a4_5 : decode cJ6_numberOfTrailingZeros_0f7a4 5 = .ok (.isub, 1) := by decide +kernel
theorem dJ6_numberOfTrailingZeros_0f7a4_6 : decode cJ6_numberOfTrailingZeros_0f7a4 6 = .ok (.iand, 1) := by decide +kernel
theorem dJ6_numberOfTrailingZeros_0f7a4_7 : decode cJ6_numberOfTrailingZeros_0f7a4 7 = .ok (.istore_n 0, 1) := by decide +kernel
theorem dJ6_numberOfTrailingZeros_0f7a4_8 : decode cJ6_numberOfTrailingZeros_0f7a4 8 = .ok (.iload_n 0, 1) := by decide +kernel
theorem dJ6_numberOfTrailingZeros_0f7a4_9 : decode cJ6_numberOfTrailingZeros_0f7a4 9 = .ok (.ifCond .gt 8, 3) := by decide +kernel
theorem dJ6_numberOfTrailingZeros_0f7a4_12 : decode cJ6_numberOfTrailingZeros_0f7a4 12 = .ok (.iload_n 0, 1) := by decide +kernel
theorem dJ6_numberOfTrailingZeros_0f7a4_13 : decode cJ6_numberOfTrailingZeros_0f7a4 13 = .ok (.bipush 32, 2) := by decide +kernel
theorem dJ6_numberOfTrailingZeros_0f7a4_15 : decode cJ6_numberOfTrailingZeros_0f7a4 15 = .ok (.iand, 1) := by decide +kernel
theorem dJ6_numberOfTrailingZeros_0f7a4_16 : decode cJ6_numberOfTrailingZeros_0f7a4 16 = .ok (.ireturn, 1) := by decide +kernel
theorem dJ6_numberOfTrailingZeros_0f7a4_17 : decode cJ6_numberOfTrailingZeros_0f7a4 17 = .ok (.iconst 1, 1) := by decide +kernel
theorem dJ6_numberOfTrailingZeros_0f7a4_18 : decode cJ6_numberOfTrailingZeros_0f7a4 18 = .ok (.istore_n 1, 1) := by decide +kernel
theorem dJ6_numberOfTrailingZeros_0f7a4_19 : decode cJ6_numberOfTrailingZeros_0f7a4 19 = .ok (.iload_n 0, 1) := by decide +kernel
theorem dJ6_numberOfTrailingZeros_0f7a4_20 : decode cJ6_numberOfTrailingZeros_0f7a4 20 = .ok (.ldc_w 264, 3) := by decide +kernel
theorem dJ6_numberOfTrailingZeros_0f7a4_23 : decode cJ6_numberOfTrailingZeros_0f7a4 23 = .ok (.if_icmp .le 11, 3) := by decide +kernel
theorem dJ6_numberOfTrailingZeros_0f7a4_26 : decode cJ6_numberOfTrailingZeros_0f7a4 26 = .ok (.iinc 1 16, 3) := by decide +kernel
theorem dJ6_numberOfTrailingZeros_0f7a4_29 : decode cJ6_numberOfTrailingZeros_0f7a4 29 = .ok (.iload_n 0, 1) := by decide +kernel
theorem dJ6_numberOfTrailingZeros_0f7a4_30 : decode cJ6_numberOfTrailingZeros_0f7a4 30 = .ok (.bipush 16, 2) := by decide +kernel
theorem dJ6_numberOfTrailingZeros_0f7a4_32 : decode cJ6_numberOfTrailingZeros_0f7a4 32 = .ok (.iushr, 1) := by decide +kernel
theorem dJ6_numberOfTrailingZeros_0f7a4_33 : decode cJ6_numberOfTrailingZeros_0f7a4 33 = .ok (.istore_n 0, 1) := by decide +kernel
theorem dJ6_numberOfTrailingZeros_0f7a4_34 : decode cJ6_numberOfTrailingZeros_0f7a4 34 = .ok (.iload_n 0, 1) := by decide +kernel
theorem dJ6_numberOfTrailingZeros_0f7a4_35 : decode cJ6_numberOfTrailingZeros_0f7a4 35 = .ok (.sipush 256, 3) := by decide +kernel
theorem dJ6_numberOfTrailingZeros_0f7a4_38 : decode cJ6_numberOfTrailingZeros_0f7a4 38 = .ok (.if_icmp .le 11, 3) := by decide +kernel
theorem dJ6_numberOfTrailingZeros_0f7a4_41 : decode cJ6_numberOfTrailingZeros_0f7a4 41 = .ok (.iinc 1 8, 3) := by decide +kernel
theorem dJ6_numberOfTrailingZeros_0f7a4_44 : decode cJ6_numberOfTrailingZeros_0f7a4 44 = .ok (.iload_n 0, 1) := by decide +kernel
theorem dJ6_numberOfTrailingZeros_0f7a4_45 : decode cJ6_numberOfTrailingZeros_0f7a4 45 = .ok (.bipush 8, 2) := by decide +kernel
theorem dJ6_numberOfTrailingZeros_0f7a4_47 : decode cJ6_numberOfTrailingZeros_0f7a4 47 = .ok (.iushr, 1) := by decide +kernel
theorem dJ6_numberOfTrailingZeros_0f7a4_48 : decode cJ6_numberOfTrailingZeros_0f7a4 48 = .ok (.istore_n 0, 1) := by decide +kernel
theorem dJ6_numberOfTrailingZeros_0f7a4_49 : decode cJ6_numberOfTrailingZeros_0f7a4 49 = .ok (.iload_n 0, 1) := by decide +kernel
theorem dJ6_numberOfTrailingZeros_0f7a4_50 : decode cJ6_numberOfTrailingZeros_0f7a4 50 = .ok (.bipush 16, 2) := by decide +kernel
theorem dJ6_numberOfTrailingZeros_0f7a4_52 : decode cJ6_numberOfTrailingZeros_0f7a4 52 = .ok (.if_icmp .le 10, 3) := by decide +kernel
theorem dJ6_numberOfTrailingZeros_0f7a4_55 : decode cJ6_numberOfTrailingZeros_0f7a4 55 = .ok (.iinc 1 4, 3) := by decide +kernel
theorem dJ6_numberOfTrailingZeros_0f7a4_58 : decode cJ6_numberOfTrailingZeros_0f7a4 58 = .ok (.iload_n 0, 1) := by decide +kernel
theorem dJ6_numberOfTrailingZeros_0f7a4_59 : decode cJ6_numberOfTrailingZeros_0f7a4 59 = .ok (.iconst 4, 1) := by decide +kernel
theorem dJ6_numberOfTrailingZeros_0f7a4_60 : decode cJ6_numberOfTrailingZeros_0f7a4 60 = .ok (.iushr, 1) := by decide +kernel
theorem dJ6_numberOfTrailingZeros_0f7a4_61 : decode cJ6_numberOfTrailingZeros_0f7a4 61 = .ok (.istore_n 0, 1) := by decide +kernel
theorem dJ6_numberOfTrailingZeros_0f7a4_62 : decode cJ6_numberOfTrailingZeros_0f7a4 62 = .ok (.iload_n 0, 1) := by decide +kernel
theorem dJ6_numberOfTrailingZeros_0f7a4_63 : decode cJ6_numberOfTrailingZeros_0f7a4 63 = .ok (.iconst 4, 1) := by decide +kernel
theorem dJ6_numberOfTrailingZeros_0f7a4_64 : decode cJ6_numberOfTrailingZeros_0f7a4 64 = .ok (.if_icmp .le 10, 3) := by decide +kernel
theorem dJ6_numberOfTrailingZeros_0f7a4_67 : decode cJ6_numberOfTrailingZeros_0f7a4 67 = .ok (.iinc 1 2, 3) := by decide +kernel
theorem dJ6_numberOfTrailingZeros_0f7a4_70 : decode cJ6_numberOfTrailingZeros_0f7a4 70 = .ok (.iload_n 0, 1) := by decide +kernel
theorem dJ6_numberOfTrailingZeros_0f7a4_71 : decode cJ6_numberOfTrailingZeros_0f7a4 71 = .ok (.iconst 2, 1) := by decide +kernel
theorem dJ6_numberOfTrailingZeros_0f7a4_72 : decode cJ6_numberOfTrailingZeros_0f7a4 72 = .ok (.iushr, 1) := by decide +kernel
theorem dJ6_numberOfTrailingZeros_0f7a4_73 : decode cJ6_numberOfTrailingZeros_0f7a4 73 = .ok (.istore_n 0, 1) := by decide +kernel
theorem dJ6_numberOfTrailingZeros_0f7a4_74 : decode cJ6_numberOfTrailingZeros_0f7a4 74 = .ok (.iload_n 1, 1) := by decide +kernel
theorem dJ6_numberOfTrailingZeros_0f7a4_75 : decode cJ6_numberOfTrailingZeros_0f7a4 75 = .ok (.iload_n 0, 1) := by decide +kernel
theorem dJ6_numberOfTrailingZeros_0f7a4_76 : decode cJ6_numberOfTrailingZeros_0f7a4 76 = .ok (.iconst 1, 1) := by decide +kernel
theorem dJ6_numberOfTrailingZeros_0f7a4_77 : decode cJ6_numberOfTrailingZeros_0f7a4 77 = .ok (.iushr, 1) := by decide +kernel
theorem dJ6_numberOfTrailingZeros_0f7a4_78 : decode cJ6_numberOfTrailingZeros_0f7a4 78 = .ok (.iadd, 1) := by decide +kernel
theorem dJ6_numberOfTrailingZeros_0f7a4_79 : decode cJ6_numberOfTrailingZeros_0f7a4 79 = .ok (.ireturn, 1) := by decide +kernel
theorem dJ6_bitCount_0f7a4_0 : decode cJ6_bitCount_0f7a4 0 = .ok (.iload_n 0, 1) := by decide +kernel
theorem dJ6_bitCount_0f7a4_1 : decode cJ6_bitCount_0f7a4 1 = .ok (.iload_n 0, 1) := by decide +kernel
theorem dJ6_bitCount_0f7a4_2 : decode cJ6_bitCount_0f7a4 2 = .ok (.iconst 1, 1) := by decide +kernel
theorem dJ6_bitCount_0f7a4_3 : decode cJ6_bitCount_0f7a4 3 = .ok (.iushr, 1) := by decide +kernel
theorem dJ6_bitCount_0f7a4_4 : decode cJ6_bitCount_0f7a4 4 = .ok (.ldc_w 265, 3) := by decide +kernel
theorem dJ6_bitCount_0f7a4_7 : decode cJ6_bitCount_0f7a4 7 = .ok (.iand, 1) := by decide +kernel
theorem dJ6_bitCount_0f7a4_8 : decode cJ6_bitCount_0f7a4 8 = .ok (.isub, 1) := by decide +kernel
theorem dJ6_bitCount_0f7a4_9 : decode cJ6_bitCount_0f7a4 9 = .ok (.istore_n 0, 1) := by decide +kernel
theorem dJ6_bitCount_0f7a4_10 : decode cJ6_bitCount_0f7a4 10 = .ok (.iload_n 0, 1) := by decide +kernel
theorem dJ6_bitCount_0f7a4_11 : decode cJ6_bitCount_0f7a4 11 = .ok (.ldc_w 266, 3) := by decide +kernel
theorem dJ6_bitCount_0f7a4_14 : decode cJ6_bitCount_0f7a4 14 = .ok (.iand, 1) := by decide +kernel
theorem dJ6_bitCount_0f7a4_15 : decode cJ6_bitCount_0f7a4 15 = .ok (.iload_n 0, 1) := by decide +kernel
theorem dJ6_bitCount_0f7a4_16 : decode cJ6_bitCount_0f7a4 16 = .ok (.iconst 2, 1) := by decide +kernel
theorem dJ6_bitCount_0f7a4_17 : decode cJ6_bitCount_0f7a4 17 = .ok (.iushr, 1) := by decide +kernel
theorem dJ6_bitCount_0f7a4_18 : decode cJ6_bitCount_0f7a4 18 = .ok (.ldc_w 266, 3) := by decide +kernel
theorem dJ6_bitCount_0f7a4_21 : decode cJ6_bitCount_0f7a4 21 = .ok (.iand, 1) := by decide +kernel
theorem dJ6_bitCount_0f7a4_22 : decode cJ6_bitCount_0f7a4 22 = .ok (.iadd, 1) := by decide +kernel
theorem dJ6_bitCount_0f7a4_23 : decode cJ6_bitCount_0f7a4 23 = .ok (.istore_n 0, 1) := by decide +kernel
theorem dJ6_bitCount_0f7a4_24 : decode cJ6_bitCount_0f7a4 24 = .ok (.iload_n 0, 1) := by decide +kernel
theorem dJ6_bitCount_0f7a4_25 : decode cJ6_bitCount_0f7a4 25 = .ok (.iload_n 0, 1) := by decide +kernel
theorem dJ6_bitCount_0f7a4_26 : decode cJ6_bitCount_0f7a4 26 = .ok (.iconst 4, 1) := by decide +kernel
theorem dJ6_bitCount_0f7a4_27 : decode cJ6_bitCount_0f7a4 27 = .ok (.iushr, 1) := by decide +kernel
theorem dJ6_bitCount_0f7a4_28 : decode cJ6_bitCount_0f7a4 28 = .ok (.iadd, 1) := by decide +kernel
theorem dJ6_bitCount_0f7a4_29 : decode cJ6_bitCount_0f7a4 29 = .ok (.ldc_w 267, 3) := by decide +kernel
theorem dJ6_bitCount_0f7a4_32 : decode cJ6_bitCount_0f7a4 32 = .ok (.iand, 1) := by decide +kernel
theorem dJ6_bitCount_0f7a4_33 : decode cJ6_bitCount_0f7a4 33 = .ok (.istore_n 0, 1) := by decide +kernel
theorem dJ6_bitCount_0f7a4_34 : decode cJ6_bitCount_0f7a4 34 = .ok (.iload_n 0, 1) := by decide +kernel
theorem dJ6_bitCount_0f7a4_35 : decode cJ6_bitCount_0f7a4 35 = .ok (.iload_n 0, 1) := by decide +kernel
theorem dJ6_bitCount_0f7a4_36 : decode cJ6_bitCount_0f7a4 36 = .ok (.bipush 8, 2) := by decide +kernel
theorem dJ6_bitCount_0f7a4_38 : decode cJ6_bitCount_0f7a4 38 = .ok (.iushr, 1) := by decide +kernel
theorem dJ6_bitCount_0f7a4_39 : decode cJ6_bitCount_0f7a4 39 = .ok (.iadd, 1) := by decide +kernel
theorem dJ6_bitCount_0f7a4_40 : decode cJ6_bitCount_0f7a4 40 = .ok (.istore_n 0, 1) := by decide +kernel
theorem dJ6_bitCount_0f7a4_41 : decode cJ6_bitCount_0f7a4 41 = .ok (.iload_n 0, 1) := by decide +kernel
theorem dJ6_bitCount_0f7a4_42 : decode cJ6_bitCount_0f7a4 42 = .ok (.iload_n 0, 1) := by decide +kernel
theorem dJ6_bitCount_0f7a4_43 : decode cJ6_bitCount_0f7a4 43 = .ok (.bipush 16, 2) := by decide +kernel
theorem dJ6_bitCount_0f7a4_45 : decode cJ6_bitCount_0f7a4 45 = .ok (.iushr, 1) := by decide +kernel
theorem dJ6_bitCount_0f7a4_46 : decode cJ6_bitCount_0f7a4 46 = .ok (.iadd, 1) := by decide +kernel
theorem dJ6_bitCount_0f7a4_47 : decode cJ6_bitCount_0f7a4 47 = .ok (.istore_n 0, 1) := by decide +kernel
theorem dJ6_bitCount_0f7a4_48 : decode cJ6_bitCount_0f7a4 48 = .ok (.iload_n 0, 1) := by decide +kernel
theorem dJ6_bitCount_0f7a4_49 : decode cJ6_bitCount_0f7a4 49 = .ok (.bipush 63, 2) := by decide +kernel
theorem dJ6_bitCount_0f7a4_51 : decode cJ6_bitCount_0f7a4 51 = .ok (.iand, 1) := by decide +kernel
theorem dJ6_bitCount_0f7a4_52 : decode cJ6_bitCount_0f7a4 52 = .ok (.ireturn, 1) := by decide +kernel
theorem dJ9_floorMod_7cf53_0 : decode cJ9_floorMod_7cf53 0 = .ok (.iload_n 0, 1) := by decide +kernel
theorem dJ9_floorMod_7cf53_1 : decode cJ9_floorMod_7cf53 1 = .ok (.iload_n 1, 1) := by decide +kernel
theorem dJ9_floorMod_7cf53_2 : decode cJ9_floorMod_7cf53 2 = .ok (.irem, 1) := by decide +kernel
theorem dJ9_floorMod_7cf53_3 : decode cJ9_floorMod_7cf53 3 = .ok (.istore_n 2, 1) := by decide +kernel
theorem dJ9_floorMod_7cf53_4 : decode cJ9_floorMod_7cf53 4 = .ok (.iload_n 0, 1) := by decide +kernel
theorem dJ9_floorMod_7cf53_5 : decode cJ9_floorMod_7cf53 5 = .ok (.iload_n 1, 1) := by decide +kernel
theorem dJ9_floorMod_7cf53_6 : decode cJ9_floorMod_7cf53 6 = .ok (.ixor, 1) := by decide +kernel
theorem dJ9_floorMod_7cf53_7 : decode cJ9_floorMod_7cf53 7 = .ok (.ifCond .ge 11, 3) := by decide +kernel
theorem dJ9_floorMod_7cf53_10 : decode cJ9_floorMod_7cf53 10 = .ok (.iload_n 2, 1) := by decide +kernel
theorem dJ9_floorMod_7cf53_11 : decode cJ9_floorMod_7cf53 11 = .ok (.ifCond .eq 7, 3) := by decide +kernel
theorem dJ9_floorMod_7cf53_14 : decode cJ9_floorMod_7cf53 14 = .ok (.iload_n 2, 1) := by decide +kernel
theorem dJ9_floorMod_7cf53_15 : decode cJ9_floorMod_7cf53 15 = .ok (.iload_n 1, 1) := by decide +kernel
theorem dJ9_floorMod_7cf53_16 : decode cJ9_floorMod_7cf53 16 = .ok (.iadd, 1) := by decide +kernel
theorem dJ9_floorMod_7cf53_17 : decode cJ9_floorMod_7cf53 17 = .ok (.ireturn, 1) := by decide +kernel
theorem dJ9_floorMod_7cf53_18 : decode cJ9_floorMod_7cf53 18 = .ok (.iload_n 2, 1) := by decide +kernel
theorem dJ9_floorMod_7cf53_19 : decode cJ9_floorMod_7cf53 19 = .ok (.ireturn, 1) := by decide +kernel
theorem dJ9_max_7cf53_0 : decode cJ9_max_7cf53 0 = .ok (.iload_n 0, 1) := by decide +kernel
theorem dJ9_max_7cf53_1 : decode cJ9_max_7cf53 1 = .ok (.iload_n 1, 1) := by decide +kernel
theorem dJ9_max_7cf53_2 : decode cJ9_max_7cf53 2 = .ok (.if_icmp .lt 7, 3) := by decide +kernel
theorem dJ9_max_7cf53_5 : decode cJ9_max_7cf53 5 = .ok (.iload_n 0, 1) := by decide +kernel
theorem dJ9_max_7cf53_6 : decode cJ9_max_7cf53 6 = .ok (.goto 4, 3) := by decide +kernel
theorem dJ9_max_7cf53_9 : decode cJ9_max_7cf53 9 = .ok (.iload_n 1, 1) := by decide +kernel
theorem dJ9_max_7cf53_10 : decode cJ9_max_7cf53 10 = .ok (.ireturn, 1) := by decide +kernel
theorem dJ9_min_7cf53_0 : decode cJ9_min_7cf53 0 = .ok (.iload_n 0, 1) := by decide +kernel
theorem dJ9_min_7cf53_1 : decode cJ9_min_7cf53 1 = .ok (.iload_n 1, 1) := by decide +kernel
theorem dJ9_min_7cf53_2 : decode cJ9_min_7cf53 2 = .ok (.if_icmp .gt 7, 3) := by decide +kernel
theorem dJ9_min_7cf53_5 : decode cJ9_min_7cf53 5 = .ok (.iload_n 0, 1) := by decide +kernel
theorem dJ9_min_7cf53_6 : decode cJ9_min_7cf53 6 = .ok (.goto 4, 3) := by decide +kernel
theorem dJ9_min_7cf53_9 : decode cJ9_min_7cf53 9 = .ok (.iload_n 1, 1) := by decide +kernel
theorem dJ9_min_7cf53_10 : decode cJ9_min_7cf53 10 = .ok (.ireturn, 1) := by decide +kernel
theorem dJ9_min_f86c9_0 : decode cJ9_min_f86c9 0 = .ok (.lload_n 0, 1) := by decide +kernel
theorem dJ9_min_f86c9_1 : decode cJ9_min_f86c9 1 = .ok (.lload_n 2, 1) := by decide +kernel
theorem dJ9_min_f86c9_2 : decode cJ9_min_f86c9 2 = .ok (.lcmp, 1) := by decide +kernel
theorem dJ9_min_f86c9_3 : decode cJ9_min_f86c9 3 = .ok (.ifCond .gt 7, 3) := by decide +kernel
theorem dJ9_min_f86c9_6 : decode cJ9_min_f86c9 6 = .ok (.lload_n 0, 1) := by decide +kernel
theorem dJ9_min_f86c9_7 : decode cJ9_min_f86c9 7 = .ok (.goto 4, 3) := by decide +kernel
theorem dJ9_min_f86c9_10 : decode cJ9_min_f86c9 10 = .ok (.lload_n 2, 1) := by decide +kernel
theorem dJ9_min_f86c9_11 : decode cJ9_min_f86c9 11 = .ok (.lreturn, 1) := by decide +kernel
theorem dJ7_fill_53178_0 : decode cJ7_fill_53178 0 = .ok (.iconst 0, 1) := by decide +kernel
theorem dJ7_fill_53178_1 : decode cJ7_fill_53178 1 = .ok (.istore_n 2, 1) := by decide +kernel
theorem dJ7_fill_53178_2 : decode cJ7_fill_53178 2 = .ok (.aload_n 0, 1) := by decide +kernel
theorem dJ7_fill_53178_3 : decode cJ7_fill_53178 3 = .ok (.arraylength, 1) := by decide +kernel
theorem dJ7_fill_53178_4 : decode cJ7_fill_53178 4 = .ok (.istore_n 3, 1) := by decide +kernel
theorem dJ7_fill_53178_5 : decode cJ7_fill_53178 5 = .ok (.iload_n 2, 1) := by decide +kernel
theorem dJ7_fill_53178_6 : decode cJ7_fill_53178 6 = .ok (.iload_n 3, 1) := by decide +kernel
theorem dJ7_fill_53178_7 : decode cJ7_fill_53178 7 = .ok (.if_icmp .ge 13, 3) := by decide +kernel
theorem dJ7_fill_53178_10 : decode cJ7_fill_53178 10 = .ok (.aload_n 0, 1) := by decide +kernel
theorem dJ7_fill_53178_11 : decode cJ7_fill_53178 11 = .ok (.iload_n 2, 1) := by decide +kernel
theorem dJ7_fill_53178_12 : decode cJ7_fill_53178 12 = .ok (.iload_n 1, 1) := by decide +kernel
theorem dJ7_fill_53178_13 : decode cJ7_fill_53178 13 = .ok (.iastore, 1) := by decide +kernel
theorem dJ7_fill_53178_14 : decode cJ7_fill_53178 14 = .ok (.iinc 2 1, 3) := by decide +kernel
theorem dJ7_fill_53178_17 : decode cJ7_fill_53178 17 = .ok (.goto (-12), 3) := by decide +kernel
theorem dJ7_fill_53178_20 : decode cJ7_fill_53178 20 = .ok (.return_, 1) := by decide +kernel
end
section
set_option maxRecDepth 20000 in
theorem ggX5_init_X3_init : GoodIn wsX5_init wsX3_init := goodIn_r _ [19, 20, 2, 3, 21, 22, 23, 24, 25, 26, 40, 41, 42, 43, 44, 45] (by decide +kernel) (by decide +kernel)
set_option maxRecDepth 20000 in
theorem gX5_init_X3_init : GoodIn wsX5_init (wsX3_init) := ggX5_init_X3_init
set_option maxRecDepth 20000 in
theorem ggX5_init_X1_init : GoodIn wsX5_init wsX1_init := goodIn_r _ [28, 29, 2, 3, 30, 31, 32, 33, 46, 47, 48] (by decide +kernel) (by decide +kernel)
set_option maxRecDepth 20000 in
theorem gX5_init_X1_init_n41 : GoodIn wsX5_init (wsX1_init) := ggX5_init_X1_init
theorem dX5_init_0 : decode cX5_init 0 = .ok (.aload_n 0, 1) := by decide +kernel
theorem dX5_init_1 : decode cX5_init 1 = .ok (.invokespecial 1, 3) := by decide +kernel
theorem dX5_init_4 : decode cX5_init 4 = .ok (.aload_n 0, 1) := by decide +kernel
theorem dX5_init_5 : decode cX5_init 5 = .ok (.iconst 4, 1) := by decide +kernel
theorem dX5_init_6 : decode cX5_init 6 = .ok (.anewarray 9, 3) := by decide +kernel
theorem dX5_init_9 : decode cX5_init 9 = .ok (.putfield 11, 3) := by decide +kernel
theorem dX5_init_12 : decode cX5_init 12 = .ok (.aload_n 0, 1) := by decide +kernel
theorem dX5_init_13 : decode cX5_init 13 = .ok (.bipush 6, 2) := by decide +kernel
theorem dX5_init_15 : decode cX5_init 15 = .ok (.anewarray 15, 3) := by decide +kernel
theorem dX5_init_18 : decode cX5_init 18 = .ok (.putfield 17, 3) := by decide +kernel
theorem dX5_init_21 : decode cX5_init 21 = .ok (.aload_n 0, 1) := by decide +kernel
theorem dX5_init_22 : decode cX5_init 22 = .ok (.iconst 4, 1) := by decide +kernel
theorem dX5_init_23 : decode cX5_init 23 = .ok (.anewarray 21, 3) := by decide +kernel
theorem dX5_init_26 : decode cX5_init 26 = .ok (.putfield 23, 3) := by decide +kernel
theorem dX5_init_29 : decode cX5_init 29 = .ok (.aload_n 0, 1) := by decide +kernel
theorem dX5_init_30 : decode cX5_init 30 = .ok (.bipush 31, 2) := by decide +kernel
theorem dX5_init_32 : decode cX5_init 32 = .ok (.putfield 27, 3) := by decide +kernel
theorem dX5_init_35 : decode cX5_init 35 = .ok (.aload_n 0, 1) := by decide +kernel
theorem dX5_init_36 : decode cX5_init 36 = .ok (.iconst 0, 1) := by decide +kernel
theorem dX5_init_37 : decode cX5_init 37 = .ok (.putfield 31, 3) := by decide +kernel
theorem dX5_init_40 : decode cX5_init 40 = .ok (.aload_n 0, 1) := by decide +kernel
theorem dX5_init_41 : decode cX5_init 41 = .ok (.aconst_null, 1) := by decide +kernel
theorem dX5_init_42 : decode cX5_init 42 = .ok (.putfield 34, 3) := by decide +kernel
theorem dX5_init_45 : decode cX5_init 45 = .ok (.iconst 0, 1) := by decide +kernel
theorem dX5_init_46 : decode cX5_init 46 = .ok (.istore_n 1, 1) := by decide +kernel
theorem dX5_init_47 : decode cX5_init 47 = .ok (.iload_n 1, 1) := by decide +kernel
theorem dX5_init_48 : decode cX5_init 48 = .ok (.bipush 6, 2) := by decide +kernel
theorem dX5_init_50 : decode cX5_init 50 = .ok (.if_icmp .ge 23, 3) := by decide +kernel
theorem dX5_init_53 : decode cX5_init 53 = .ok (.aload_n 0, 1) := by decide +kernel
theorem dX5_init_54 : decode cX5_init 54 = .ok (.getfield 17, 3) := by decide +kernel
theorem dX5_init_57 : decode cX5_init 57 = .ok (.iload_n 1, 1) := by decide +kernel
theorem dX5_init_58 : decode cX5_init 58 = .ok (.new 15, 3) := by decide +kernel
theorem dX5_init_61 : decode cX5_init 61 = .ok (.dup, 1) := by decide +kernel
theorem dX5_init_62 : decode cX5_init 62 = .ok (.iload_n 1, 1) := by decide +kernel
theorem dX5_init_63 : decode cX5_init 63 = .ok (.invokespecial 38, 3) := by decide +kernel
theorem dX5_init_66 : decode cX5_init 66 = .ok (.aastore, 1) := by decide +kernel
theorem dX5_init_67 : decode cX5_init 67 = .ok (.iinc 1 1, 3) := by decide +kernel
theorem dX5_init_70 : decode cX5_init 70 = .ok (.goto (-23), 3) := by decide +kernel
theorem dX5_init_73 : decode cX5_init 73 = .ok (.iconst 0, 1) := by decide +kernel
theorem dX5_init_74 : decode cX5_init 74 = .ok (.istore_n 1, 1) := by decide +kernel
theorem dX5_init_75 : decode cX5_init 75 = .ok (.iload_n 1, 1) := by decide +kernel
theorem dX5_init_76 : decode cX5_init 76 = .ok (.iconst 4, 1) := by decide +kernel
theorem dX5_init_77 : decode cX5_init 77 = .ok (.if_icmp .ge 22, 3) := by decide +kernel
theorem dX5_init_80 : decode cX5_init 80 = .ok (.aload_n 0, 1) := by decide +kernel
theorem dX5_init_81 : decode cX5_init 81 = .ok (.getfield 23, 3) := by decide +kernel
theorem dX5_init_84 : decode cX5_init 84 = .ok (.iload_n 1, 1) := by decide +kernel
theorem dX5_init_85 : decode cX5_init 85 = .ok (.new 21, 3) := by decide +kernel
theorem dX5_init_88 : decode cX5_init 88 = .ok (.dup, 1) := by decide +kernel
theorem dX5_init_89 : decode cX5_init 89 = .ok (.invokespecial 41, 3) := by decide +kernel
theorem dX5_init_92 : decode cX5_init 92 = .ok (.aastore, 1) := by decide +kernel
theorem dX5_init_93 : decode cX5_init 93 = .ok (.iinc 1 1, 3) := by decide +kernel
theorem dX5_init_96 : decode cX5_init 96 = .ok (.goto (-21), 3) := by decide +kernel
theorem dX5_init_99 : decode cX5_init 99 = .ok (.return_, 1) := by decide +kernel
set_option maxRecDepth 20000 in
theorem ggX5_create_J6_bitCount_0f7a4 : GoodIn wsX5_create wsJ6_bitCount_0f7a4 := goodIn_r _ [11, 12, 13, 14] (by decide +kernel) (by decide +kernel)
set_option maxRecDepth 20000 in
theorem gX5_create_J6_bitCount_0f7a4 : GoodIn wsX5_create (va_wsS RX5 42 yJ6_bitCount_0f7a4 wsJ6_bitCount_0f7a4) := goodIn_app (goodIn_of _ (by decide +kernel)) ggX5_create_J6_bitCount_0f7a4
set_option maxRecDepth 20000 in
theorem ggX5_create_X2_init : GoodIn wsX5_create wsX2_init := goodIn_r _ [17, 18, 19, 20, 21, 22, 23, 24, 25, 26, 27, 28, 29, 30, 31, 32, 33, 34, 35, 36, 37, 38, 39, 40, 41, 42, 43, 44, 45, 46, 47, 54, 55, 56, 57, 58, 59, 60, 61, 62, 63, 64, 65, 66] (by decide +kernel) (by decide +kernel)
set_option maxRecDepth 20000 in
theorem gX5_create_X2_init : GoodIn wsX5_create (wsX2_init) := ggX5_create_X2_init
theorem dX5_create_0 : decode cX5_create 0 = .ok (.iload_n 2, 1) := by decide +kernel
theorem dX5_create_1 : decode cX5_create 1 = .ok (.bipush 31, 2) := by decide +kernel
theorem dX5_create_3 : decode cX5_create 3 = .ok (.iand, 1) := by decide +kernel
theorem dX5_create_4 : decode cX5_create 4 = .ok (.istore 4, 2) := by decide +kernel
theorem dX5_create_6 : decode cX5_create 6 = .ok (.iload_n 1, 1) := by decide +kernel
theorem dX5_create_7 : decode cX5_create 7 = .ok (.ifCond .lt 17, 3) := by decide +kernel
theorem dX5_create_10 : decode cX5_create 10 = .ok (.iload_n 1, 1) := by decide +kernel
theorem dX5_create_11 : decode cX5_create 11 = .ok (.iconst 4, 1) := by decide +kernel
theorem dX5_create_12 : decode cX5_create 12 = .ok (.if_icmp .ge 12, 3) := by decide +kernel
theorem dX5_create_15 : decode cX5_create 15 = .ok (.aload_n 0, 1) := by decide +kernel
theorem dX5_create_16 : decode cX5_create 16 = .ok (.getfield 11, 3) := by decide +kernel
theorem dX5_create_19 : decode cX5_create 19 = .ok (.iload_n 1, 1) := by decide +kernel
theorem dX5_create_20 : decode cX5_create 20 = .ok (.aaload, 1) := by decide +kernel
theorem dX5_create_21 : decode cX5_create 21 = .ok (.ifnull 5, 3) := by decide +kernel
theorem dX5_create_24 : decode cX5_create 24 = .ok (.iconst (-1), 1) := by decide +kernel
theorem dX5_create_25 : decode cX5_create 25 = .ok (.ireturn, 1) := by decide +kernel
theorem dX5_create_26 : decode cX5_create 26 = .ok (.iload_n 3, 1) := by decide +kernel
theorem dX5_create_27 : decode cX5_create 27 = .ok (.iconst 1, 1) := by decide +kernel
theorem dX5_create_28 : decode cX5_create 28 = .ok (.if_icmp .lt 12, 3) := by decide +kernel
theorem dX5_create_31 : decode cX5_create 31 = .ok (.iload_n 3, 1) := by decide +kernel
theorem dX5_create_32 : decode cX5_create 32 = .ok (.iload 4, 2) := by decide +kernel
theorem dX5_create_34 : decode cX5_create 34 = .ok (.invokestatic 42, 3) := by decide +kernel
theorem dX5_create_37 : decode cX5_create 37 = .ok (.if_icmp .le 5, 3) := by decide +kernel
theorem dX5_create_40 : decode cX5_create 40 = .ok (.iconst (-1), 1) := by decide +kernel
theorem dX5_create_41 : decode cX5_create 41 = .ok (.ireturn, 1) := by decide +kernel
theorem dX5_create_42 : decode cX5_create 42 = .ok (.iload 4, 2) := by decide +kernel
theorem dX5_create_44 : decode cX5_create 44 = .ok (.aload_n 0, 1) := by decide +kernel
theorem dX5_create_45 : decode cX5_create 45 = .ok (.getfield 27, 3) := by decide +kernel
theorem dX5_create_48 : decode cX5_create 48 = .ok (.iand, 1) := by decide +kernel
theorem dX5_create_49 : decode cX5_create 49 = .ok (.ifCond .ne 6, 3) := by decide +kernel
theorem dX5_create_52 : decode cX5_create 52 = .ok (.bipush (-2), 2) := by decide +kernel
theorem dX5_create_54 : decode cX5_create 54 = .ok (.ireturn, 1) := by decide +kernel
theorem dX5_create_55 : decode cX5_create 55 = .ok (.new 9, 3) := by decide +kernel
theorem dX5_create_58 : decode cX5_create 58 = .ok (.dup, 1) := by decide +kernel
theorem dX5_create_59 : decode cX5_create 59 = .ok (.iload 4, 2) := by decide +kernel
theorem dX5_create_61 : decode cX5_create 61 = .ok (.iload 4, 2) := by decide +kernel
theorem dX5_create_63 : decode cX5_create 63 = .ok (.aload_n 0, 1) := by decide +kernel
theorem dX5_create_64 : decode cX5_create 64 = .ok (.getfield 27, 3) := by decide +kernel
theorem dX5_create_67 : decode cX5_create 67 = .ok (.iand, 1) := by decide +kernel
theorem dX5_create_68 : decode cX5_create 68 = .ok (.iload_n 3, 1) := by decide +kernel
theorem dX5_create_69 : decode cX5_create 69 = .ok (.aload_n 0, 1) := by decide +kernel
theorem dX5_create_70 : decode cX5_create 70 = .ok (.getfield 31, 3) := by decide +kernel
theorem dX5_create_73 : decode cX5_create 73 = .ok (.invokespecial 48, 3) := by decide +kernel
theorem dX5_create_76 : decode cX5_create 76 = .ok (.astore 5, 2) := by decide +kernel
theorem dX5_create_78 : decode cX5_create 78 = .ok (.aload_n 0, 1) := by decide +kernel
theorem dX5_create_79 : decode cX5_create 79 = .ok (.getfield 11, 3) := by decide +kernel
theorem dX5_create_82 : decode cX5_create 82 = .ok (.iload_n 1, 1) := by decide +kernel
theorem dX5_create_83 : decode cX5_create 83 = .ok (.aload 5, 2) := by decide +kernel
theorem dX5_create_85 : decode cX5_create 85 = .ok (.aastore, 1) := by decide +kernel
theorem dX5_create_86 : decode cX5_create 86 = .ok (.aload 5, 2) := by decide +kernel
theorem dX5_create_88 : decode cX5_create 88 = .ok (.getfield 51, 3) := by decide +kernel
theorem dX5_create_91 : decode cX5_create 91 = .ok (.ireturn, 1) := by decide +kernel
set_option maxRecDepth 20000 in
theorem ggX5_elect_X5_partitionAt : GoodIn wsX5_elect wsX5_partitionAt := goodIn_r _ [9, 10, 59, 60, 61, 62, 63, 64] (by decide +kernel) (by decide +kernel)
set_option maxRecDepth 20000 in
theorem gX5_elect_X5_partitionAt : GoodIn wsX5_elect (wsV RX5 54 RX5 yX5_partitionAt wsX5_partitionAt) := goodIn_app (goodIn_of _ (by decide +kernel)) ggX5_elect_X5_partitionAt
set_option maxRecDepth 20000 in
theorem ggX5_elect_X5_leastOf : GoodIn wsX5_elect wsX5_leastOf := goodIn_r _ [13, 14, 15, 8, 16] (by decide +kernel) (by decide +kernel)
set_option maxRecDepth 20000 in
theorem gX5_elect_X5_leastOf : GoodIn wsX5_elect (va_wsS RX5 61 yX5_leastOf wsX5_leastOf) := goodIn_app (goodIn_of _ (by decide +kernel)) ggX5_elect_X5_leastOf
set_option maxRecDepth 20000 in
theorem ggX5_elect_X2_putLeader : GoodIn wsX5_elect wsX2_putLeader := goodIn_r _ [21, 22, 23, 24, 25, 26, 27, 28, 29, 20, 30, 31, 32, 33, 34, 35, 36, 37, 38, 39, 40, 41, 42, 43, 44, 45, 46, 47, 48, 15, 8, 16, 49, 50, 51, 52, 53, 54, 55, 56, 57, 58, 65, 66, 67, 68, 69, 70, 71] (by decide +kernel) (by decide +kernel)
set_option maxRecDepth 20000 in
theorem gX5_elect_X2_putLeader : GoodIn wsX5_elect (wsV RX5 67 RX2 yX2_putLeader wsX2_putLeader) := goodIn_app (goodIn_of _ (by decide +kernel)) ggX5_elect_X2_putLeader
theorem dX5_elect_0 : decode cX5_elect 0 = .ok (.aload_n 0, 1) := by decide +kernel
theorem dX5_elect_1 : decode cX5_elect 1 = .ok (.iload_n 1, 1) := by decide +kernel
theorem dX5_elect_2 : decode cX5_elect 2 = .ok (.invokevirtual 54, 3) := by decide +kernel
theorem dX5_elect_5 : decode cX5_elect 5 = .ok (.astore_n 3, 1) := by decide +kernel
theorem dX5_elect_6 : decode cX5_elect 6 = .ok (.aload_n 3, 1) := by decide +kernel
theorem dX5_elect_7 : decode cX5_elect 7 = .ok (.ifnonnull 5, 3) := by decide +kernel
theorem dX5_elect_10 : decode cX5_elect 10 = .ok (.iconst (-1), 1) := by decide +kernel
theorem dX5_elect_11 : decode cX5_elect 11 = .ok (.ireturn, 1) := by decide +kernel
theorem dX5_elect_12 : decode cX5_elect 12 = .ok (.aload_n 3, 1) := by decide +kernel
theorem dX5_elect_13 : decode cX5_elect 13 = .ok (.getfield 58, 3) := by decide +kernel
theorem dX5_elect_16 : decode cX5_elect 16 = .ok (.aload_n 0, 1) := by decide +kernel
theorem dX5_elect_17 : decode cX5_elect 17 = .ok (.getfield 27, 3) := by decide +kernel
theorem dX5_elect_20 : decode cX5_elect 20 = .ok (.iand, 1) := by decide +kernel
theorem dX5_elect_21 : decode cX5_elect 21 = .ok (.invokestatic 61, 3) := by decide +kernel
theorem dX5_elect_24 : decode cX5_elect 24 = .ok (.istore 4, 2) := by decide +kernel
theorem dX5_elect_26 : decode cX5_elect 26 = .ok (.iload 4, 2) := by decide +kernel
theorem dX5_elect_28 : decode cX5_elect 28 = .ok (.iconst (-1), 1) := by decide +kernel
theorem dX5_elect_29 : decode cX5_elect 29 = .ok (.if_icmp .ne 35, 3) := by decide +kernel
theorem dX5_elect_32 : decode cX5_elect 32 = .ok (.iload_n 2, 1) := by decide +kernel
theorem dX5_elect_33 : decode cX5_elect 33 = .ok (.ifCond .eq 31, 3) := by decide +kernel
theorem dX5_elect_36 : decode cX5_elect 36 = .ok (.aload_n 3, 1) := by decide +kernel
theorem dX5_elect_37 : decode cX5_elect 37 = .ok (.getfield 64, 3) := by decide +kernel
theorem dX5_elect_40 : decode cX5_elect 40 = .ok (.aload_n 0, 1) := by decide +kernel
theorem dX5_elect_41 : decode cX5_elect 41 = .ok (.getfield 27, 3) := by decide +kernel
theorem dX5_elect_44 : decode cX5_elect 44 = .ok (.iand, 1) := by decide +kernel
theorem dX5_elect_45 : decode cX5_elect 45 = .ok (.invokestatic 61, 3) := by decide +kernel
theorem dX5_elect_48 : decode cX5_elect 48 = .ok (.istore 4, 2) := by decide +kernel
theorem dX5_elect_50 : decode cX5_elect 50 = .ok (.iload 4, 2) := by decide +kernel
theorem dX5_elect_52 : decode cX5_elect 52 = .ok (.iconst (-1), 1) := by decide +kernel
theorem dX5_elect_53 : decode cX5_elect 53 = .ok (.if_icmp .eq 11, 3) := by decide +kernel
theorem dX5_elect_56 : decode cX5_elect 56 = .ok (.aload_n 3, 1) := by decide +kernel
theorem dX5_elect_57 : decode cX5_elect 57 = .ok (.iconst 1, 1) := by decide +kernel
theorem dX5_elect_58 : decode cX5_elect 58 = .ok (.iload 4, 2) := by decide +kernel
theorem dX5_elect_60 : decode cX5_elect 60 = .ok (.ishl, 1) := by decide +kernel
theorem dX5_elect_61 : decode cX5_elect 61 = .ok (.putfield 58, 3) := by decide +kernel
theorem dX5_elect_64 : decode cX5_elect 64 = .ok (.iload 4, 2) := by decide +kernel
theorem dX5_elect_66 : decode cX5_elect 66 = .ok (.iconst (-1), 1) := by decide +kernel
theorem dX5_elect_67 : decode cX5_elect 67 = .ok (.if_icmp .ne 6, 3) := by decide +kernel
theorem dX5_elect_70 : decode cX5_elect 70 = .ok (.bipush (-2), 2) := by decide +kernel
theorem dX5_elect_72 : decode cX5_elect 72 = .ok (.ireturn, 1) := by decide +kernel
theorem dX5_elect_73 : decode cX5_elect 73 = .ok (.aload_n 3, 1) := by decide +kernel
theorem dX5_elect_74 : decode cX5_elect 74 = .ok (.iload 4, 2) := by decide +kernel
theorem dX5_elect_76 : decode cX5_elect 76 = .ok (.aload_n 0, 1) := by decide +kernel
theorem dX5_elect_77 : decode cX5_elect 77 = .ok (.getfield 31, 3) := by decide +kernel
theorem dX5_elect_80 : decode cX5_elect 80 = .ok (.invokevirtual 67, 3) := by decide +kernel
theorem dX5_elect_83 : decode cX5_elect 83 = .ok (.iload 4, 2) := by decide +kernel
theorem dX5_elect_85 : decode cX5_elect 85 = .ok (.ireturn, 1) := by decide +kernel
set_option maxRecDepth 20000 in
theorem ggX5_register_X5_producerAt : GoodIn wsX5_register wsX5_producerAt := goodIn_r _ [7, 8, 22, 23, 24, 25, 26, 27] (by decide +kernel) (by decide +kernel)
set_option maxRecDepth 20000 in
theorem gX5_register_X5_producerAt : GoodIn wsX5_register (wsV RX5 71 RX5 yX5_producerAt wsX5_producerAt) := goodIn_app (goodIn_of _ (by decide +kernel)) ggX5_register_X5_producerAt
set_option maxRecDepth 20000 in
theorem ggX5_register_X3_startEnding : GoodIn wsX5_register wsX3_startEnding := goodIn_r _ [13, 14, 15, 16, 17, 18, 19, 20, 21] (by decide +kernel) (by decide +kernel)
set_option maxRecDepth 20000 in
theorem gX5_register_X3_startEnding : GoodIn wsX5_register (wsV RX5 81 RX3 yX3_startEnding wsX3_startEnding) := goodIn_app (goodIn_of _ (by decide +kernel)) ggX5_register_X3_startEnding
theorem dX5_register_0 : decode cX5_register 0 = .ok (.aload_n 0, 1) := by decide +kernel
theorem dX5_register_1 : decode cX5_register 1 = .ok (.iload_n 1, 1) := by decide +kernel
theorem dX5_register_2 : decode cX5_register 2 = .ok (.invokevirtual 71, 3) := by decide +kernel
theorem dX5_register_5 : decode cX5_register 5 = .ok (.astore_n 2, 1) := by decide +kernel
theorem dX5_register_6 : decode cX5_register 6 = .ok (.aload_n 2, 1) := by decide +kernel
theorem dX5_register_7 : decode cX5_register 7 = .ok (.ifnonnull 5, 3) := by decide +kernel
theorem dX5_register_10 : decode cX5_register 10 = .ok (.iconst (-1), 1) := by decide +kernel
theorem dX5_register_11 : decode cX5_register 11 = .ok (.ireturn, 1) := by decide +kernel
theorem dX5_register_12 : decode cX5_register 12 = .ok (.aload_n 2, 1) := by decide +kernel
theorem dX5_register_13 : decode cX5_register 13 = .ok (.dup, 1) := by decide +kernel
theorem dX5_register_14 : decode cX5_register 14 = .ok (.getfield 75, 3) := by decide +kernel
theorem dX5_register_17 : decode cX5_register 17 = .ok (.iconst 1, 1) := by decide +kernel
theorem dX5_register_18 : decode cX5_register 18 = .ok (.iadd, 1) := by decide +kernel
theorem dX5_register_19 : decode cX5_register 19 = .ok (.putfield 75, 3) := by decide +kernel
theorem dX5_register_22 : decode cX5_register 22 = .ok (.aload_n 2, 1) := by decide +kernel
theorem dX5_register_23 : decode cX5_register 23 = .ok (.getfield 78, 3) := by decide +kernel
theorem dX5_register_26 : decode cX5_register 26 = .ok (.iconst 1, 1) := by decide +kernel
theorem dX5_register_27 : decode cX5_register 27 = .ok (.if_icmp .ne 8, 3) := by decide +kernel
theorem dX5_register_30 : decode cX5_register 30 = .ok (.aload_n 2, 1) := by decide +kernel
theorem dX5_register_31 : decode cX5_register 31 = .ok (.iconst 0, 1) := by decide +kernel
theorem dX5_register_32 : decode cX5_register 32 = .ok (.invokevirtual 81, 3) := by decide +kernel
theorem dX5_register_35 : decode cX5_register 35 = .ok (.aload_n 2, 1) := by decide +kernel
theorem dX5_register_36 : decode cX5_register 36 = .ok (.getfield 75, 3) := by decide +kernel
theorem dX5_register_39 : decode cX5_register 39 = .ok (.bipush 8, 2) := by decide +kernel
theorem dX5_register_41 : decode cX5_register 41 = .ok (.imul, 1) := by decide +kernel
theorem dX5_register_42 : decode cX5_register 42 = .ok (.iload_n 1, 1) := by decide +kernel
theorem dX5_register_43 : decode cX5_register 43 = .ok (.iadd, 1) := by decide +kernel
theorem dX5_register_44 : decode cX5_register 44 = .ok (.ireturn, 1) := by decide +kernel
set_option maxRecDepth 20000 in
theorem ggX5_produce_X5_partitionAt : GoodIn wsX5_produce wsX5_partitionAt := goodIn_r _ [13, 14, 143, 144, 145, 146, 147, 148] (by decide +kernel) (by decide +kernel)
set_option maxRecDepth 20000 in
theorem gX5_produce_X5_partitionAt : GoodIn wsX5_produce (wsV RX5 54 RX5 yX5_partitionAt wsX5_partitionAt) := goodIn_app (goodIn_of _ (by decide +kernel)) ggX5_produce_X5_partitionAt
set_option maxRecDepth 20000 in
theorem ggX5_produce_X5_producerOf : GoodIn wsX5_produce wsX5_producerOf := goodIn_r _ [18, 19, 20, 21, 12, 22, 23, 143, 144, 145, 146, 147, 148] (by decide +kernel) (by decide +kernel)
set_option maxRecDepth 20000 in
theorem gX5_produce_X5_producerOf : GoodIn wsX5_produce (wsV RX5 85 RX5 yX5_producerOf wsX5_producerOf) := goodIn_app (goodIn_of _ (by decide +kernel)) ggX5_produce_X5_producerOf
set_option maxRecDepth 20000 in
theorem ggX5_produce_X2_leading : GoodIn wsX5_produce wsX2_leading := goodIn_r _ [28, 29, 30, 31, 32, 27, 33, 34, 130, 131, 132, 133, 134, 135] (by decide +kernel) (by decide +kernel)
set_option maxRecDepth 20000 in
theorem gX5_produce_X2_leading : GoodIn wsX5_produce (wsV RX5 88 RX2 yX2_leading wsX2_leading) := goodIn_app (goodIn_of _ (by decide +kernel)) ggX5_produce_X2_leading
set_option maxRecDepth 20000 in
theorem ggX5_produce_X5_generationOf : GoodIn wsX5_produce wsX5_generationOf := goodIn_r _ [37] (by decide +kernel) (by decide +kernel)
set_option maxRecDepth 20000 in
theorem gX5_produce_X5_generationOf : GoodIn wsX5_produce (va_wsS RX5 92 yX5_generationOf wsX5_generationOf) := goodIn_app (goodIn_of _ (by decide +kernel)) ggX5_produce_X5_generationOf
set_option maxRecDepth 20000 in
theorem ggX5_produce_J6_bitCount_0f7a4 : GoodIn wsX5_produce wsJ6_bitCount_0f7a4 := goodIn_r _ [41, 42, 43, 44] (by decide +kernel) (by decide +kernel)
set_option maxRecDepth 20000 in
theorem gX5_produce_J6_bitCount_0f7a4 : GoodIn wsX5_produce (va_wsS RX5 42 yJ6_bitCount_0f7a4 wsJ6_bitCount_0f7a4) := goodIn_app (goodIn_of _ (by decide +kernel)) ggX5_produce_J6_bitCount_0f7a4
set_option maxRecDepth 20000 in
theorem ggX5_produce_X4_offsetOf : GoodIn wsX5_produce wsX4_offsetOf := goodIn_r _ [49, 50, 51, 52, 53, 54, 55, 48, 56, 57, 58, 59, 60, 61, 62, 63, 64, 65, 66, 67, 68, 69, 136, 137, 138, 139, 140, 141, 142, 149, 150, 151, 152, 153, 154, 155, 156] (by decide +kernel) (by decide +kernel)
set_option maxRecDepth 20000 in
theorem gX5_produce_X4_offsetOf : GoodIn wsX5_produce (wsV RX5 101 RX4 yX4_offsetOf wsX4_offsetOf) := goodIn_app (goodIn_of _ (by decide +kernel)) ggX5_produce_X4_offsetOf
set_option maxRecDepth 20000 in
theorem ggX5_produce_X4_nextSeq : GoodIn wsX5_produce wsX4_nextSeq := goodIn_r _ [73, 51, 50, 52, 53, 54, 55, 48, 56, 57, 58, 59, 60, 61, 62, 63, 64, 65, 66, 67, 68, 69, 136, 137, 138, 139, 140, 141, 142, 149, 150, 151, 152, 153, 154, 155, 156] (by decide +kernel) (by decide +kernel)
set_option maxRecDepth 20000 in
theorem gX5_produce_X4_nextSeq : GoodIn wsX5_produce (wsV RX5 107 RX4 yX4_nextSeq wsX4_nextSeq) := goodIn_app (goodIn_of _ (by decide +kernel)) ggX5_produce_X4_nextSeq
set_option maxRecDepth 20000 in
theorem ggX5_produce_X4_isFull : GoodIn wsX5_produce wsX4_isFull := goodIn_r _ [77, 78, 79, 80, 48, 81, 51, 50, 136, 137, 138, 139, 140, 141, 142] (by decide +kernel) (by decide +kernel)
set_option maxRecDepth 20000 in
theorem gX5_produce_X4_isFull : GoodIn wsX5_produce (wsV RX5 111 RX4 yX4_isFull wsX4_isFull) := goodIn_app (goodIn_of _ (by decide +kernel)) ggX5_produce_X4_isFull
set_option maxRecDepth 20000 in
theorem ggX5_produce_X5_newData : GoodIn wsX5_produce wsX5_newData := goodIn_r _ [84, 85, 86, 65, 5, 1, 2, 87, 88, 89, 90, 91, 92, 93, 67, 68, 69, 94, 95, 96, 97, 149, 150, 151, 152, 153, 154, 155, 156, 124, 125, 126, 127, 128, 129] (by decide +kernel) (by decide +kernel)
set_option maxRecDepth 20000 in
theorem gX5_produce_X5_newData : GoodIn wsX5_produce (va_wsS RX5 118 yX5_newData wsX5_newData) := goodIn_app (goodIn_of _ (by decide +kernel)) ggX5_produce_X5_newData
set_option maxRecDepth 20000 in
theorem ggX5_produce_X4_append : GoodIn wsX5_produce wsX4_append := goodIn_r _ [101, 57, 51, 58, 59, 60, 61, 136, 137, 138, 139, 140, 141, 142] (by decide +kernel) (by decide +kernel)
set_option maxRecDepth 20000 in
theorem gX5_produce_X4_append : GoodIn wsX5_produce (wsV RX5 122 RX4 yX4_append wsX4_append) := goodIn_app (goodIn_of _ (by decide +kernel)) ggX5_produce_X4_append
set_option maxRecDepth 20000 in
theorem ggX5_produce_X2_raiseHw : GoodIn wsX5_produce wsX2_raiseHw := goodIn_r _ [105, 106, 107, 108, 109, 110, 111, 112, 113, 114, 115, 116, 25, 26, 27, 28, 29, 30, 31, 32, 33, 34, 117, 12, 118, 119, 120, 121, 122, 123, 136, 137, 138, 139, 140, 141, 142, 130, 131, 132, 133, 134, 135] (by decide +kernel) (by decide +kernel)
set_option maxRecDepth 20000 in
theorem gX5_produce_X2_raiseHw : GoodIn wsX5_produce (wsV RX5 129 RX2 yX2_raiseHw wsX2_raiseHw) := goodIn_app (goodIn_of _ (by decide +kernel)) ggX5_produce_X2_raiseHw
theorem dX5_produce_0 : decode cX5_produce 0 = .ok (.aload_n 0, 1) := by decide +kernel
theorem dX5_produce_1 : decode cX5_produce 1 = .ok (.iload_n 1, 1) := by decide +kernel
theorem dX5_produce_2 : decode cX5_produce 2 = .ok (.invokevirtual 54, 3) := by decide +kernel
theorem dX5_produce_5 : decode cX5_produce 5 = .ok (.astore 7, 2) := by decide +kernel
theorem dX5_produce_7 : decode cX5_produce 7 = .ok (.aload_n 0, 1) := by decide +kernel
theorem dX5_produce_8 : decode cX5_produce 8 = .ok (.iload_n 2, 1) := by decide +kernel
theorem dX5_produce_9 : decode cX5_produce 9 = .ok (.invokevirtual 85, 3) := by decide +kernel
theorem dX5_produce_12 : decode cX5_produce 12 = .ok (.astore 8, 2) := by decide +kernel
theorem dX5_produce_14 : decode cX5_produce 14 = .ok (.aload 7, 2) := by decide +kernel
theorem dX5_produce_16 : decode cX5_produce 16 = .ok (.ifnull 13, 3) := by decide +kernel
theorem dX5_produce_19 : decode cX5_produce 19 = .ok (.aload 8, 2) := by decide +kernel
theorem dX5_produce_21 : decode cX5_produce 21 = .ok (.ifnonnull 10, 3) := by decide +kernel
theorem dX5_produce_24 : decode cX5_produce 24 = .ok (.iload_n 2, 1) := by decide +kernel
theorem dX5_produce_25 : decode cX5_produce 25 = .ok (.iconst (-1), 1) := by decide +kernel
theorem dX5_produce_26 : decode cX5_produce 26 = .ok (.if_icmp .eq 5, 3) := by decide +kernel
theorem dX5_produce_29 : decode cX5_produce 29 = .ok (.iconst (-1), 1) := by decide +kernel
theorem dX5_produce_30 : decode cX5_produce 30 = .ok (.ireturn, 1) := by decide +kernel
theorem dX5_produce_31 : decode cX5_produce 31 = .ok (.aload 7, 2) := by decide +kernel
theorem dX5_produce_33 : decode cX5_produce 33 = .ok (.invokevirtual 88, 3) := by decide +kernel
theorem dX5_produce_36 : decode cX5_produce 36 = .ok (.astore 9, 2) := by decide +kernel
theorem dX5_produce_38 : decode cX5_produce 38 = .ok (.aload 9, 2) := by decide +kernel
theorem dX5_produce_40 : decode cX5_produce 40 = .ok (.ifnonnull 6, 3) := by decide +kernel
theorem dX5_produce_43 : decode cX5_produce 43 = .ok (.bipush (-2), 2) := by decide +kernel
theorem dX5_produce_45 : decode cX5_produce 45 = .ok (.ireturn, 1) := by decide +kernel
theorem dX5_produce_46 : decode cX5_produce 46 = .ok (.aload 8, 2) := by decide +kernel
theorem dX5_produce_48 : decode cX5_produce 48 = .ok (.ifnull 27, 3) := by decide +kernel
theorem dX5_produce_51 : decode cX5_produce 51 = .ok (.aload 8, 2) := by decide +kernel
theorem dX5_produce_53 : decode cX5_produce 53 = .ok (.getfield 75, 3) := by decide +kernel
theorem dX5_produce_56 : decode cX5_produce 56 = .ok (.iload_n 2, 1) := by decide +kernel
theorem dX5_produce_57 : decode cX5_produce 57 = .ok (.invokestatic 92, 3) := by decide +kernel
theorem dX5_produce_60 : decode cX5_produce 60 = .ok (.if_icmp .ne 12, 3) := by decide +kernel
theorem dX5_produce_63 : decode cX5_produce 63 = .ok (.aload 8, 2) := by decide +kernel
theorem dX5_produce_65 : decode cX5_produce 65 = .ok (.getfield 78, 3) := by decide +kernel
theorem dX5_produce_68 : decode cX5_produce 68 = .ok (.iconst 2, 1) := by decide +kernel
theorem dX5_produce_69 : decode cX5_produce 69 = .ok (.if_icmp .ne 6, 3) := by decide +kernel
theorem dX5_produce_72 : decode cX5_produce 72 = .ok (.bipush (-4), 2) := by decide +kernel
theorem dX5_produce_74 : decode cX5_produce 74 = .ok (.ireturn, 1) := by decide +kernel
theorem dX5_produce_75 : decode cX5_produce 75 = .ok (.iload 6, 2) := by decide +kernel
theorem dX5_produce_77 : decode cX5_produce 77 = .ok (.ifCond .eq 22, 3) := by decide +kernel
theorem dX5_produce_80 : decode cX5_produce 80 = .ok (.aload 7, 2) := by decide +kernel
theorem dX5_produce_82 : decode cX5_produce 82 = .ok (.getfield 58, 3) := by decide +kernel
theorem dX5_produce_85 : decode cX5_produce 85 = .ok (.invokestatic 42, 3) := by decide +kernel
theorem dX5_produce_88 : decode cX5_produce 88 = .ok (.aload 7, 2) := by decide +kernel
theorem dX5_produce_90 : decode cX5_produce 90 = .ok (.getfield 95, 3) := by decide +kernel
theorem dX5_produce_93 : decode cX5_produce 93 = .ok (.if_icmp .ge 6, 3) := by decide +kernel
theorem dX5_produce_96 : decode cX5_produce 96 = .ok (.bipush (-5), 2) := by decide +kernel
theorem dX5_produce_98 : decode cX5_produce 98 = .ok (.ireturn, 1) := by decide +kernel
theorem dX5_produce_99 : decode cX5_produce 99 = .ok (.aload 8, 2) := by decide +kernel
theorem dX5_produce_101 : decode cX5_produce 101 = .ok (.ifnull 52, 3) := by decide +kernel
theorem dX5_produce_104 : decode cX5_produce 104 = .ok (.aload 9, 2) := by decide +kernel
theorem dX5_produce_106 : decode cX5_produce 106 = .ok (.aload 8, 2) := by decide +kernel
theorem dX5_produce_108 : decode cX5_produce 108 = .ok (.getfield 98, 3) := by decide +kernel
theorem dX5_produce_111 : decode cX5_produce 111 = .ok (.aload 8, 2) := by decide +kernel
theorem dX5_produce_113 : decode cX5_produce 113 = .ok (.getfield 75, 3) := by decide +kernel
theorem dX5_produce_116 : decode cX5_produce 116 = .ok (.iload_n 3, 1) := by decide +kernel
theorem dX5_produce_117 : decode cX5_produce 117 = .ok (.invokevirtual 101, 3) := by decide +kernel
theorem dX5_produce_120 : decode cX5_produce 120 = .ok (.istore 10, 2) := by decide +kernel
theorem dX5_produce_122 : decode cX5_produce 122 = .ok (.iload 10, 2) := by decide +kernel
theorem dX5_produce_124 : decode cX5_produce 124 = .ok (.iconst (-1), 1) := by decide +kernel
theorem dX5_produce_125 : decode cX5_produce 125 = .ok (.if_icmp .eq 6, 3) := by decide +kernel
theorem dX5_produce_128 : decode cX5_produce 128 = .ok (.iload 10, 2) := by decide +kernel
theorem dX5_produce_130 : decode cX5_produce 130 = .ok (.ireturn, 1) := by decide +kernel
theorem dX5_produce_131 : decode cX5_produce 131 = .ok (.iload_n 3, 1) := by decide +kernel
theorem dX5_produce_132 : decode cX5_produce 132 = .ok (.aload 9, 2) := by decide +kernel
theorem dX5_produce_134 : decode cX5_produce 134 = .ok (.aload 8, 2) := by decide +kernel
theorem dX5_produce_136 : decode cX5_produce 136 = .ok (.getfield 98, 3) := by decide +kernel
theorem dX5_produce_139 : decode cX5_produce 139 = .ok (.aload 8, 2) := by decide +kernel
theorem dX5_produce_141 : decode cX5_produce 141 = .ok (.getfield 75, 3) := by decide +kernel
theorem dX5_produce_144 : decode cX5_produce 144 = .ok (.invokevirtual 107, 3) := by decide +kernel
theorem dX5_produce_147 : decode cX5_produce 147 = .ok (.if_icmp .eq 6, 3) := by decide +kernel
theorem dX5_produce_150 : decode cX5_produce 150 = .ok (.bipush (-6), 2) := by decide +kernel
theorem dX5_produce_152 : decode cX5_produce 152 = .ok (.ireturn, 1) := by decide +kernel
theorem dX5_produce_153 : decode cX5_produce 153 = .ok (.aload 9, 2) := by decide +kernel
theorem dX5_produce_155 : decode cX5_produce 155 = .ok (.invokevirtual 111, 3) := by decide +kernel
theorem dX5_produce_158 : decode cX5_produce 158 = .ok (.ifCond .eq 6, 3) := by decide +kernel
theorem dX5_produce_161 : decode cX5_produce 161 = .ok (.bipush (-3), 2) := by decide +kernel
theorem dX5_produce_163 : decode cX5_produce 163 = .ok (.ireturn, 1) := by decide +kernel
theorem dX5_produce_164 : decode cX5_produce 164 = .ok (.aload 9, 2) := by decide +kernel
theorem dX5_produce_166 : decode cX5_produce 166 = .ok (.aload 7, 2) := by decide +kernel
theorem dX5_produce_168 : decode cX5_produce 168 = .ok (.getfield 115, 3) := by decide +kernel
theorem dX5_produce_171 : decode cX5_produce 171 = .ok (.aload 8, 2) := by decide +kernel
theorem dX5_produce_173 : decode cX5_produce 173 = .ok (.iload_n 3, 1) := by decide +kernel
theorem dX5_produce_174 : decode cX5_produce 174 = .ok (.iload 4, 2) := by decide +kernel
theorem dX5_produce_176 : decode cX5_produce 176 = .ok (.iload 5, 2) := by decide +kernel
theorem dX5_produce_178 : decode cX5_produce 178 = .ok (.invokestatic 118, 3) := by decide +kernel
theorem dX5_produce_181 : decode cX5_produce 181 = .ok (.invokevirtual 122, 3) := by decide +kernel
theorem dX5_produce_184 : decode cX5_produce 184 = .ok (.aload 8, 2) := by decide +kernel
theorem dX5_produce_186 : decode cX5_produce 186 = .ok (.ifnull 25, 3) := by decide +kernel
theorem dX5_produce_189 : decode cX5_produce 189 = .ok (.aload 8, 2) := by decide +kernel
theorem dX5_produce_191 : decode cX5_produce 191 = .ok (.getfield 78, 3) := by decide +kernel
theorem dX5_produce_194 : decode cX5_produce 194 = .ok (.iconst 1, 1) := by decide +kernel
theorem dX5_produce_195 : decode cX5_produce 195 = .ok (.if_icmp .ne 16, 3) := by decide +kernel
theorem dX5_produce_198 : decode cX5_produce 198 = .ok (.aload 8, 2) := by decide +kernel
theorem dX5_produce_200 : decode cX5_produce 200 = .ok (.dup, 1) := by decide +kernel
theorem dX5_produce_201 : decode cX5_produce 201 = .ok (.getfield 126, 3) := by decide +kernel
theorem dX5_produce_204 : decode cX5_produce 204 = .ok (.iconst 1, 1) := by decide +kernel
theorem dX5_produce_205 : decode cX5_produce 205 = .ok (.iload_n 1, 1) := by decide +kernel
theorem dX5_produce_206 : decode cX5_produce 206 = .ok (.ishl, 1) := by decide +kernel
theorem dX5_produce_207 : decode cX5_produce 207 = .ok (.ior, 1) := by decide +kernel
theorem dX5_produce_208 : decode cX5_produce 208 = .ok (.putfield 126, 3) := by decide +kernel
theorem dX5_produce_211 : decode cX5_produce 211 = .ok (.aload 7, 2) := by decide +kernel
theorem dX5_produce_213 : decode cX5_produce 213 = .ok (.invokevirtual 129, 3) := by decide +kernel
theorem dX5_produce_216 : decode cX5_produce 216 = .ok (.aload 9, 2) := by decide +kernel
theorem dX5_produce_218 : decode cX5_produce 218 = .ok (.getfield 132, 3) := by decide +kernel
theorem dX5_produce_221 : decode cX5_produce 221 = .ok (.iconst 1, 1) := by decide +kernel
theorem dX5_produce_222 : decode cX5_produce 222 = .ok (.isub, 1) := by decide +kernel
theorem dX5_produce_223 : decode cX5_produce 223 = .ok (.ireturn, 1) := by decide +kernel
set_option maxRecDepth 20000 in
theorem ggX5_begin_X5_producerOf : GoodIn wsX5_begin wsX5_producerOf := goodIn_r _ [7, 8, 9, 10, 6, 11, 12, 31, 32, 33, 34, 35, 36] (by decide +kernel) (by decide +kernel)
set_option maxRecDepth 20000 in
theorem gX5_begin_X5_producerOf : GoodIn wsX5_begin (wsV RX5 85 RX5 yX5_producerOf wsX5_producerOf) := goodIn_app (goodIn_of _ (by decide +kernel)) ggX5_begin_X5_producerOf
set_option maxRecDepth 20000 in
theorem ggX5_begin_X5_generationOf : GoodIn wsX5_begin wsX5_generationOf := goodIn_r _ [15] (by decide +kernel) (by decide +kernel)
set_option maxRecDepth 20000 in
theorem gX5_begin_X5_generationOf : GoodIn wsX5_begin (va_wsS RX5 92 yX5_generationOf wsX5_generationOf) := goodIn_app (goodIn_of _ (by decide +kernel)) ggX5_begin_X5_generationOf
set_option maxRecDepth 20000 in
theorem ggX5_begin_X3_open : GoodIn wsX5_begin wsX3_open := goodIn_r _ [20, 21, 22, 23, 24, 25, 26, 27, 28, 29, 30] (by decide +kernel) (by decide +kernel)
set_option maxRecDepth 20000 in
theorem gX5_begin_X3_open : GoodIn wsX5_begin (wsV RX5 135 RX3 yX3_open wsX3_open) := goodIn_app (goodIn_of _ (by decide +kernel)) ggX5_begin_X3_open
theorem dX5_begin_0 : decode cX5_begin 0 = .ok (.aload_n 0, 1) := by decide +kernel
theorem dX5_begin_1 : decode cX5_begin 1 = .ok (.iload_n 1, 1) := by decide +kernel
theorem dX5_begin_2 : decode cX5_begin 2 = .ok (.invokevirtual 85, 3) := by decide +kernel
theorem dX5_begin_5 : decode cX5_begin 5 = .ok (.astore_n 2, 1) := by decide +kernel
theorem dX5_begin_6 : decode cX5_begin 6 = .ok (.aload_n 2, 1) := by decide +kernel
theorem dX5_begin_7 : decode cX5_begin 7 = .ok (.ifnonnull 5, 3) := by decide +kernel
theorem dX5_begin_10 : decode cX5_begin 10 = .ok (.iconst (-1), 1) := by decide +kernel
theorem dX5_begin_11 : decode cX5_begin 11 = .ok (.ireturn, 1) := by decide +kernel
theorem dX5_begin_12 : decode cX5_begin 12 = .ok (.aload_n 2, 1) := by decide +kernel
theorem dX5_begin_13 : decode cX5_begin 13 = .ok (.getfield 75, 3) := by decide +kernel
theorem dX5_begin_16 : decode cX5_begin 16 = .ok (.iload_n 1, 1) := by decide +kernel
theorem dX5_begin_17 : decode cX5_begin 17 = .ok (.invokestatic 92, 3) := by decide +kernel
theorem dX5_begin_20 : decode cX5_begin 20 = .ok (.if_icmp .ne 10, 3) := by decide +kernel
theorem dX5_begin_23 : decode cX5_begin 23 = .ok (.aload_n 2, 1) := by decide +kernel
theorem dX5_begin_24 : decode cX5_begin 24 = .ok (.getfield 78, 3) := by decide +kernel
theorem dX5_begin_27 : decode cX5_begin 27 = .ok (.ifCond .eq 6, 3) := by decide +kernel
theorem dX5_begin_30 : decode cX5_begin 30 = .ok (.bipush (-4), 2) := by decide +kernel
theorem dX5_begin_32 : decode cX5_begin 32 = .ok (.ireturn, 1) := by decide +kernel
theorem dX5_begin_33 : decode cX5_begin 33 = .ok (.aload_n 2, 1) := by decide +kernel
theorem dX5_begin_34 : decode cX5_begin 34 = .ok (.invokevirtual 135, 3) := by decide +kernel
theorem dX5_begin_37 : decode cX5_begin 37 = .ok (.iconst 0, 1) := by decide +kernel
theorem dX5_begin_38 : decode cX5_begin 38 = .ok (.ireturn, 1) := by decide +kernel
set_option maxRecDepth 20000 in
theorem ggX5_finish_X5_producerOf : GoodIn wsX5_finish wsX5_producerOf := goodIn_r _ [8, 9, 10, 11, 7, 12, 13, 37, 38, 39, 40, 41, 42] (by decide +kernel) (by decide +kernel)
set_option maxRecDepth 20000 in
theorem gX5_finish_X5_producerOf : GoodIn wsX5_finish (wsV RX5 85 RX5 yX5_producerOf wsX5_producerOf) := goodIn_app (goodIn_of _ (by decide +kernel)) ggX5_finish_X5_producerOf
set_option maxRecDepth 20000 in
theorem ggX5_finish_X5_generationOf : GoodIn wsX5_finish wsX5_generationOf := goodIn_r _ [16] (by decide +kernel) (by decide +kernel)
set_option maxRecDepth 20000 in
theorem gX5_finish_X5_generationOf : GoodIn wsX5_finish (va_wsS RX5 92 yX5_generationOf wsX5_generationOf) := goodIn_app (goodIn_of _ (by decide +kernel)) ggX5_finish_X5_generationOf
set_option maxRecDepth 20000 in
theorem ggX5_finish_X3_startEnding : GoodIn wsX5_finish wsX3_startEnding := goodIn_r _ [21, 22, 23, 31, 32, 33, 34, 35, 36] (by decide +kernel) (by decide +kernel)
set_option maxRecDepth 20000 in
theorem gX5_finish_X3_startEnding : GoodIn wsX5_finish (wsV RX5 81 RX3 yX3_startEnding wsX3_startEnding) := goodIn_app (goodIn_of _ (by decide +kernel)) ggX5_finish_X3_startEnding
set_option maxRecDepth 20000 in
theorem ggX5_finish_J6_bitCount_0f7a4 : GoodIn wsX5_finish wsJ6_bitCount_0f7a4 := goodIn_r _ [27, 28, 29, 30] (by decide +kernel) (by decide +kernel)
set_option maxRecDepth 20000 in
theorem gX5_finish_J6_bitCount_0f7a4 : GoodIn wsX5_finish (va_wsS RX5 42 yJ6_bitCount_0f7a4 wsJ6_bitCount_0f7a4) := goodIn_app (goodIn_of _ (by decide +kernel)) ggX5_finish_J6_bitCount_0f7a4
theorem dX5_finish_0 : decode cX5_finish 0 = .ok (.aload_n 0, 1) := by decide +kernel
theorem dX5_finish_1 : decode cX5_finish 1 = .ok (.iload_n 1, 1) := by decide +kernel
theorem dX5_finish_2 : decode cX5_finish 2 = .ok (.invokevirtual 85, 3) := by decide +kernel
theorem dX5_finish_5 : decode cX5_finish 5 = .ok (.astore_n 3, 1) := by decide +kernel
theorem dX5_finish_6 : decode cX5_finish 6 = .ok (.aload_n 3, 1) := by decide +kernel
theorem dX5_finish_7 : decode cX5_finish 7 = .ok (.ifnonnull 5, 3) := by decide +kernel
theorem dX5_finish_10 : decode cX5_finish 10 = .ok (.iconst (-1), 1) := by decide +kernel
theorem dX5_finish_11 : decode cX5_finish 11 = .ok (.ireturn, 1) := by decide +kernel
theorem dX5_finish_12 : decode cX5_finish 12 = .ok (.aload_n 3, 1) := by decide +kernel
theorem dX5_finish_13 : decode cX5_finish 13 = .ok (.getfield 75, 3) := by decide +kernel
theorem dX5_finish_16 : decode cX5_finish 16 = .ok (.iload_n 1, 1) := by decide +kernel
theorem dX5_finish_17 : decode cX5_finish 17 = .ok (.invokestatic 92, 3) := by decide +kernel
theorem dX5_finish_20 : decode cX5_finish 20 = .ok (.if_icmp .ne 11, 3) := by decide +kernel
theorem dX5_finish_23 : decode cX5_finish 23 = .ok (.aload_n 3, 1) := by decide +kernel
theorem dX5_finish_24 : decode cX5_finish 24 = .ok (.getfield 78, 3) := by decide +kernel
theorem dX5_finish_27 : decode cX5_finish 27 = .ok (.iconst 1, 1) := by decide +kernel
theorem dX5_finish_28 : decode cX5_finish 28 = .ok (.if_icmp .eq 6, 3) := by decide +kernel
theorem dX5_finish_31 : decode cX5_finish 31 = .ok (.bipush (-4), 2) := by decide +kernel
theorem dX5_finish_33 : decode cX5_finish 33 = .ok (.ireturn, 1) := by decide +kernel
theorem dX5_finish_34 : decode cX5_finish 34 = .ok (.aload_n 3, 1) := by decide +kernel
theorem dX5_finish_35 : decode cX5_finish 35 = .ok (.iload_n 2, 1) := by decide +kernel
theorem dX5_finish_36 : decode cX5_finish 36 = .ok (.invokevirtual 81, 3) := by decide +kernel
theorem dX5_finish_39 : decode cX5_finish 39 = .ok (.aload_n 3, 1) := by decide +kernel
theorem dX5_finish_40 : decode cX5_finish 40 = .ok (.getfield 126, 3) := by decide +kernel
theorem dX5_finish_43 : decode cX5_finish 43 = .ok (.invokestatic 42, 3) := by decide +kernel
theorem dX5_finish_46 : decode cX5_finish 46 = .ok (.ireturn, 1) := by decide +kernel
set_option maxRecDepth 20000 in
theorem ggX5_settle_X5_producerAt : GoodIn wsX5_settle wsX5_producerAt := goodIn_r _ [8, 9, 101, 102, 103, 104, 105, 106] (by decide +kernel) (by decide +kernel)
set_option maxRecDepth 20000 in
theorem gX5_settle_X5_producerAt : GoodIn wsX5_settle (wsV RX5 71 RX5 yX5_producerAt wsX5_producerAt) := goodIn_app (goodIn_of _ (by decide +kernel)) ggX5_settle_X5_producerAt
set_option maxRecDepth 20000 in
theorem ggX5_settle_X5_contains : GoodIn wsX5_settle wsX5_contains := goodIn_r _ [12] (by decide +kernel) (by decide +kernel)
set_option maxRecDepth 20000 in
theorem gX5_settle_X5_contains : GoodIn wsX5_settle (va_wsS RX5 138 yX5_contains wsX5_contains) := goodIn_app (goodIn_of _ (by decide +kernel)) ggX5_settle_X5_contains
set_option maxRecDepth 20000 in
theorem ggX5_settle_X5_markEnd : GoodIn wsX5_settle wsX5_markEnd := goodIn_r _ [15, 16, 17, 18, 19, 20, 21, 22, 23, 24, 25, 26, 27, 28, 29, 30, 31, 32, 33, 34, 35, 36, 37, 38, 39, 40, 41, 42, 43, 44, 45, 46, 47, 48, 49, 50, 51, 52, 53, 54, 55, 56, 57, 58, 59, 60, 61, 62, 63, 64, 65, 66, 67, 68, 69, 70, 71, 72, 73, 74, 75, 76, 77, 78, 79, 80, 81, 82, 11, 7, 12, 83, 84, 85, 86, 87, 107, 108, 109, 110, 111, 112, 113, 114, 115, 116, 117, 118, 119, 120, 95, 96, 97, 98, 99, 100, 121, 122, 123, 124, 125, 126, 127] (by decide +kernel) (by decide +kernel)
set_option maxRecDepth 20000 in
theorem gX5_settle_X5_markEnd : GoodIn wsX5_settle (va_wsS RX5 142 yX5_markEnd wsX5_markEnd) := goodIn_app (goodIn_of _ (by decide +kernel)) ggX5_settle_X5_markEnd
set_option maxRecDepth 20000 in
theorem ggX5_settle_J6_bitCount_0f7a4 : GoodIn wsX5_settle wsJ6_bitCount_0f7a4 := goodIn_r _ [91, 92, 93, 94] (by decide +kernel) (by decide +kernel)
set_option maxRecDepth 20000 in
theorem gX5_settle_J6_bitCount_0f7a4 : GoodIn wsX5_settle (va_wsS RX5 42 yJ6_bitCount_0f7a4 wsJ6_bitCount_0f7a4) := goodIn_app (goodIn_of _ (by decide +kernel)) ggX5_settle_J6_bitCount_0f7a4
theorem dX5_settle_0 : decode cX5_settle 0 = .ok (.aload_n 0, 1) := by decide +kernel
theorem dX5_settle_1 : decode cX5_settle 1 = .ok (.iload_n 1, 1) := by decide +kernel
theorem dX5_settle_2 : decode cX5_settle 2 = .ok (.invokevirtual 71, 3) := by decide +kernel
theorem dX5_settle_5 : decode cX5_settle 5 = .ok (.astore_n 2, 1) := by decide +kernel
theorem dX5_settle_6 : decode cX5_settle 6 = .ok (.aload_n 2, 1) := by decide +kernel
theorem dX5_settle_7 : decode cX5_settle 7 = .ok (.ifnonnull 5, 3) := by decide +kernel
theorem dX5_settle_10 : decode cX5_settle 10 = .ok (.iconst (-1), 1) := by decide +kernel
theorem dX5_settle_11 : decode cX5_settle 11 = .ok (.ireturn, 1) := by decide +kernel
theorem dX5_settle_12 : decode cX5_settle 12 = .ok (.aload_n 2, 1) := by decide +kernel
theorem dX5_settle_13 : decode cX5_settle 13 = .ok (.getfield 78, 3) := by decide +kernel
theorem dX5_settle_16 : decode cX5_settle 16 = .ok (.iconst 2, 1) := by decide +kernel
theorem dX5_settle_17 : decode cX5_settle 17 = .ok (.if_icmp .eq 6, 3) := by decide +kernel
theorem dX5_settle_20 : decode cX5_settle 20 = .ok (.bipush (-2), 2) := by decide +kernel
theorem dX5_settle_22 : decode cX5_settle 22 = .ok (.ireturn, 1) := by decide +kernel
theorem dX5_settle_23 : decode cX5_settle 23 = .ok (.iconst 0, 1) := by decide +kernel
theorem dX5_settle_24 : decode cX5_settle 24 = .ok (.istore_n 3, 1) := by decide +kernel
theorem dX5_settle_25 : decode cX5_settle 25 = .ok (.iload_n 3, 1) := by decide +kernel
theorem dX5_settle_26 : decode cX5_settle 26 = .ok (.iconst 4, 1) := by decide +kernel
theorem dX5_settle_27 : decode cX5_settle 27 = .ok (.if_icmp .ge 47, 3) := by decide +kernel
theorem dX5_settle_30 : decode cX5_settle 30 = .ok (.aload_n 2, 1) := by decide +kernel
theorem dX5_settle_31 : decode cX5_settle 31 = .ok (.getfield 126, 3) := by decide +kernel
theorem dX5_settle_34 : decode cX5_settle 34 = .ok (.iload_n 3, 1) := by decide +kernel
theorem dX5_settle_35 : decode cX5_settle 35 = .ok (.invokestatic 138, 3) := by decide +kernel
theorem dX5_settle_38 : decode cX5_settle 38 = .ok (.ifCond .eq 30, 3) := by decide +kernel
theorem dX5_settle_41 : decode cX5_settle 41 = .ok (.aload_n 0, 1) := by decide +kernel
theorem dX5_settle_42 : decode cX5_settle 42 = .ok (.getfield 11, 3) := by decide +kernel
theorem dX5_settle_45 : decode cX5_settle 45 = .ok (.iload_n 3, 1) := by decide +kernel
theorem dX5_settle_46 : decode cX5_settle 46 = .ok (.aaload, 1) := by decide +kernel
theorem dX5_settle_47 : decode cX5_settle 47 = .ok (.aload_n 2, 1) := by decide +kernel
theorem dX5_settle_48 : decode cX5_settle 48 = .ok (.invokestatic 142, 3) := by decide +kernel
theorem dX5_settle_51 : decode cX5_settle 51 = .ok (.ifCond .eq 17, 3) := by decide +kernel
theorem dX5_settle_54 : decode cX5_settle 54 = .ok (.aload_n 2, 1) := by decide +kernel
theorem dX5_settle_55 : decode cX5_settle 55 = .ok (.dup, 1) := by decide +kernel
theorem dX5_settle_56 : decode cX5_settle 56 = .ok (.getfield 126, 3) := by decide +kernel
theorem dX5_settle_59 : decode cX5_settle 59 = .ok (.iconst 1, 1) := by decide +kernel
theorem dX5_settle_60 : decode cX5_settle 60 = .ok (.iload_n 3, 1) := by decide +kernel
theorem dX5_settle_61 : decode cX5_settle 61 = .ok (.ishl, 1) := by decide +kernel
theorem dX5_settle_62 : decode cX5_settle 62 = .ok (.iconst (-1), 1) := by decide +kernel
theorem dX5_settle_63 : decode cX5_settle 63 = .ok (.ixor, 1) := by decide +kernel
theorem dX5_settle_64 : decode cX5_settle 64 = .ok (.iand, 1) := by decide +kernel
theorem dX5_settle_65 : decode cX5_settle 65 = .ok (.putfield 126, 3) := by decide +kernel
theorem dX5_settle_68 : decode cX5_settle 68 = .ok (.iinc 3 1, 3) := by decide +kernel
theorem dX5_settle_71 : decode cX5_settle 71 = .ok (.goto (-46), 3) := by decide +kernel
theorem dX5_settle_74 : decode cX5_settle 74 = .ok (.aload_n 2, 1) := by decide +kernel
theorem dX5_settle_75 : decode cX5_settle 75 = .ok (.getfield 126, 3) := by decide +kernel
theorem dX5_settle_78 : decode cX5_settle 78 = .ok (.ifCond .ne 8, 3) := by decide +kernel
theorem dX5_settle_81 : decode cX5_settle 81 = .ok (.aload_n 2, 1) := by decide +kernel
theorem dX5_settle_82 : decode cX5_settle 82 = .ok (.iconst 0, 1) := by decide +kernel
theorem dX5_settle_83 : decode cX5_settle 83 = .ok (.putfield 78, 3) := by decide +kernel
theorem dX5_settle_86 : decode cX5_settle 86 = .ok (.aload_n 2, 1) := by decide +kernel
theorem dX5_settle_87 : decode cX5_settle 87 = .ok (.getfield 126, 3) := by decide +kernel
theorem dX5_settle_90 : decode cX5_settle 90 = .ok (.invokestatic 42, 3) := by decide +kernel
theorem dX5_settle_93 : decode cX5_settle 93 = .ok (.ireturn, 1) := by decide +kernel
set_option maxRecDepth 20000 in
theorem ggX5_safe_X5_partitionAt : GoodIn wsX5_safe wsX5_partitionAt := goodIn_r _ [6, 7, 26, 27, 28, 29, 30, 31] (by decide +kernel) (by decide +kernel)
set_option maxRecDepth 20000 in
theorem gX5_safe_X5_partitionAt : GoodIn wsX5_safe (wsV RX5 54 RX5 yX5_partitionAt wsX5_partitionAt) := goodIn_app (goodIn_of _ (by decide +kernel)) ggX5_safe_X5_partitionAt
set_option maxRecDepth 20000 in
theorem ggX5_safe_X2_leading : GoodIn wsX5_safe wsX2_leading := goodIn_r _ [12, 13, 14, 15, 16, 11, 17, 18, 32, 33, 34, 35, 36, 37] (by decide +kernel) (by decide +kernel)
set_option maxRecDepth 20000 in
theorem gX5_safe_X2_leading : GoodIn wsX5_safe (wsV RX5 88 RX2 yX2_leading wsX2_leading) := goodIn_app (goodIn_of _ (by decide +kernel)) ggX5_safe_X2_leading
theorem dX5_safe_0 : decode cX5_safe 0 = .ok (.aload_n 0, 1) := by decide +kernel
theorem dX5_safe_1 : decode cX5_safe 1 = .ok (.iload_n 1, 1) := by decide +kernel
theorem dX5_safe_2 : decode cX5_safe 2 = .ok (.invokevirtual 54, 3) := by decide +kernel
theorem dX5_safe_5 : decode cX5_safe 5 = .ok (.astore_n 3, 1) := by decide +kernel
theorem dX5_safe_6 : decode cX5_safe 6 = .ok (.aload_n 3, 1) := by decide +kernel
theorem dX5_safe_7 : decode cX5_safe 7 = .ok (.ifnonnull 5, 3) := by decide +kernel
theorem dX5_safe_10 : decode cX5_safe 10 = .ok (.iconst (-1), 1) := by decide +kernel
theorem dX5_safe_11 : decode cX5_safe 11 = .ok (.ireturn, 1) := by decide +kernel
theorem dX5_safe_12 : decode cX5_safe 12 = .ok (.aload_n 3, 1) := by decide +kernel
theorem dX5_safe_13 : decode cX5_safe 13 = .ok (.invokevirtual 88, 3) := by decide +kernel
theorem dX5_safe_16 : decode cX5_safe 16 = .ok (.astore 4, 2) := by decide +kernel
theorem dX5_safe_18 : decode cX5_safe 18 = .ok (.aload 4, 2) := by decide +kernel
theorem dX5_safe_20 : decode cX5_safe 20 = .ok (.ifnonnull 6, 3) := by decide +kernel
theorem dX5_safe_23 : decode cX5_safe 23 = .ok (.bipush (-2), 2) := by decide +kernel
theorem dX5_safe_25 : decode cX5_safe 25 = .ok (.ireturn, 1) := by decide +kernel
theorem dX5_safe_26 : decode cX5_safe 26 = .ok (.iload_n 2, 1) := by decide +kernel
theorem dX5_safe_27 : decode cX5_safe 27 = .ok (.aload 4, 2) := by decide +kernel
theorem dX5_safe_29 : decode cX5_safe 29 = .ok (.getfield 146, 3) := by decide +kernel
theorem dX5_safe_32 : decode cX5_safe 32 = .ok (.if_icmp .ge 7, 3) := by decide +kernel
theorem dX5_safe_35 : decode cX5_safe 35 = .ok (.iconst 1, 1) := by decide +kernel
theorem dX5_safe_36 : decode cX5_safe 36 = .ok (.goto 4, 3) := by decide +kernel
theorem dX5_safe_39 : decode cX5_safe 39 = .ok (.iconst 0, 1) := by decide +kernel
theorem dX5_safe_40 : decode cX5_safe 40 = .ok (.ireturn, 1) := by decide +kernel
set_option maxRecDepth 20000 in
theorem ggX5_follow_X5_partitionAt : GoodIn wsX5_follow wsX5_partitionAt := goodIn_r _ [13, 14, 87, 88, 89, 90, 91, 92] (by decide +kernel) (by decide +kernel)
set_option maxRecDepth 20000 in
theorem gX5_follow_X5_partitionAt : GoodIn wsX5_follow (wsV RX5 54 RX5 yX5_partitionAt wsX5_partitionAt) := goodIn_app (goodIn_of _ (by decide +kernel)) ggX5_follow_X5_partitionAt
set_option maxRecDepth 20000 in
theorem ggX5_follow_X2_replicaAt : GoodIn wsX5_follow wsX2_replicaAt := goodIn_r _ [19, 20, 93, 94, 95, 96, 97, 98] (by decide +kernel) (by decide +kernel)
set_option maxRecDepth 20000 in
theorem gX5_follow_X2_replicaAt : GoodIn wsX5_follow (wsV RX5 149 RX2 yX2_replicaAt wsX2_replicaAt) := goodIn_app (goodIn_of _ (by decide +kernel)) ggX5_follow_X2_replicaAt
set_option maxRecDepth 20000 in
theorem ggX5_follow_X5_contains : GoodIn wsX5_follow wsX5_contains := goodIn_r _ [23] (by decide +kernel) (by decide +kernel)
set_option maxRecDepth 20000 in
theorem gX5_follow_X5_contains : GoodIn wsX5_follow (va_wsS RX5 138 yX5_contains wsX5_contains) := goodIn_app (goodIn_of _ (by decide +kernel)) ggX5_follow_X5_contains
set_option maxRecDepth 20000 in
theorem ggX5_follow_X2_leading : GoodIn wsX5_follow wsX2_leading := goodIn_r _ [27, 28, 29, 16, 17, 18, 19, 20, 93, 94, 95, 96, 97, 98] (by decide +kernel) (by decide +kernel)
set_option maxRecDepth 20000 in
theorem gX5_follow_X2_leading : GoodIn wsX5_follow (wsV RX5 88 RX2 yX2_leading wsX2_leading) := goodIn_app (goodIn_of _ (by decide +kernel)) ggX5_follow_X2_leading
set_option maxRecDepth 20000 in
theorem ggX5_follow_X4_agreeWith : GoodIn wsX5_follow wsX4_agreeWith := goodIn_r _ [34, 35, 36, 37, 38, 39, 40, 41, 42, 43, 44, 45, 46, 47, 33, 48, 49, 50, 51, 52, 53, 54, 55, 56, 57, 58, 99, 100, 101, 102, 103, 104, 105, 106, 107, 108, 109, 110, 111, 112, 113] (by decide +kernel) (by decide +kernel)
set_option maxRecDepth 20000 in
theorem gX5_follow_X4_agreeWith : GoodIn wsX5_follow (wsV RX5 153 RX4 yX4_agreeWith wsX4_agreeWith) := goodIn_app (goodIn_of _ (by decide +kernel)) ggX5_follow_X4_agreeWith
set_option maxRecDepth 20000 in
theorem ggX5_follow_X2_raiseHw : GoodIn wsX5_follow wsX2_raiseHw := goodIn_r _ [62, 63, 64, 65, 43, 39, 44, 66, 67, 38, 40, 68, 25, 26, 18, 27, 28, 29, 16, 17, 19, 20, 22, 12, 23, 69, 70, 71, 72, 73, 99, 100, 101, 102, 103, 104, 105, 93, 94, 95, 96, 97, 98] (by decide +kernel) (by decide +kernel)
set_option maxRecDepth 20000 in
theorem gX5_follow_X2_raiseHw : GoodIn wsX5_follow (wsV RX5 129 RX2 yX2_raiseHw wsX2_raiseHw) := goodIn_app (goodIn_of _ (by decide +kernel)) ggX5_follow_X2_raiseHw
set_option maxRecDepth 20000 in
theorem ggX5_follow_X4_fetchFrom : GoodIn wsX5_follow wsX4_fetchFrom := goodIn_r _ [77, 36, 35, 78, 42, 43, 39, 44, 79, 80, 81, 33, 82, 37, 38, 40, 41, 50, 51, 52, 53, 54, 55, 56, 57, 58, 83, 84, 85, 86, 99, 100, 101, 102, 103, 104, 105] (by decide +kernel) (by decide +kernel)
set_option maxRecDepth 20000 in
theorem gX5_follow_X4_fetchFrom : GoodIn wsX5_follow (wsV RX5 163 RX4 yX4_fetchFrom wsX4_fetchFrom) := goodIn_app (goodIn_of _ (by decide +kernel)) ggX5_follow_X4_fetchFrom
theorem dX5_follow_0 : decode cX5_follow 0 = .ok (.aload_n 0, 1) := by decide +kernel
theorem dX5_follow_1 : decode cX5_follow 1 = .ok (.iload_n 2, 1) := by decide +kernel
theorem dX5_follow_2 : decode cX5_follow 2 = .ok (.invokevirtual 54, 3) := by decide +kernel
theorem dX5_follow_5 : decode cX5_follow 5 = .ok (.astore_n 3, 1) := by decide +kernel
theorem dX5_follow_6 : decode cX5_follow 6 = .ok (.aload_n 3, 1) := by decide +kernel
theorem dX5_follow_7 : decode cX5_follow 7 = .ok (.ifnonnull 5, 3) := by decide +kernel
theorem dX5_follow_10 : decode cX5_follow 10 = .ok (.iconst (-1), 1) := by decide +kernel
theorem dX5_follow_11 : decode cX5_follow 11 = .ok (.ireturn, 1) := by decide +kernel
theorem dX5_follow_12 : decode cX5_follow 12 = .ok (.aload_n 3, 1) := by decide +kernel
theorem dX5_follow_13 : decode cX5_follow 13 = .ok (.iload_n 1, 1) := by decide +kernel
theorem dX5_follow_14 : decode cX5_follow 14 = .ok (.invokevirtual 149, 3) := by decide +kernel
theorem dX5_follow_17 : decode cX5_follow 17 = .ok (.astore 4, 2) := by decide +kernel
theorem dX5_follow_19 : decode cX5_follow 19 = .ok (.aload 4, 2) := by decide +kernel
theorem dX5_follow_21 : decode cX5_follow 21 = .ok (.ifnull 22, 3) := by decide +kernel
theorem dX5_follow_24 : decode cX5_follow 24 = .ok (.aload_n 0, 1) := by decide +kernel
theorem dX5_follow_25 : decode cX5_follow 25 = .ok (.getfield 27, 3) := by decide +kernel
theorem dX5_follow_28 : decode cX5_follow 28 = .ok (.iload_n 1, 1) := by decide +kernel
theorem dX5_follow_29 : decode cX5_follow 29 = .ok (.invokestatic 138, 3) := by decide +kernel
theorem dX5_follow_32 : decode cX5_follow 32 = .ok (.ifCond .eq 11, 3) := by decide +kernel
theorem dX5_follow_35 : decode cX5_follow 35 = .ok (.iload_n 1, 1) := by decide +kernel
theorem dX5_follow_36 : decode cX5_follow 36 = .ok (.aload_n 3, 1) := by decide +kernel
theorem dX5_follow_37 : decode cX5_follow 37 = .ok (.getfield 51, 3) := by decide +kernel
theorem dX5_follow_40 : decode cX5_follow 40 = .ok (.if_icmp .ne 5, 3) := by decide +kernel
theorem dX5_follow_43 : decode cX5_follow 43 = .ok (.iconst (-1), 1) := by decide +kernel
theorem dX5_follow_44 : decode cX5_follow 44 = .ok (.ireturn, 1) := by decide +kernel
theorem dX5_follow_45 : decode cX5_follow 45 = .ok (.aload_n 3, 1) := by decide +kernel
theorem dX5_follow_46 : decode cX5_follow 46 = .ok (.invokevirtual 88, 3) := by decide +kernel
theorem dX5_follow_49 : decode cX5_follow 49 = .ok (.astore 5, 2) := by decide +kernel
theorem dX5_follow_51 : decode cX5_follow 51 = .ok (.aload 5, 2) := by decide +kernel
theorem dX5_follow_53 : decode cX5_follow 53 = .ok (.ifnonnull 6, 3) := by decide +kernel
theorem dX5_follow_56 : decode cX5_follow 56 = .ok (.bipush (-2), 2) := by decide +kernel
theorem dX5_follow_58 : decode cX5_follow 58 = .ok (.ireturn, 1) := by decide +kernel
theorem dX5_follow_59 : decode cX5_follow 59 = .ok (.aload 4, 2) := by decide +kernel
theorem dX5_follow_61 : decode cX5_follow 61 = .ok (.aload 5, 2) := by decide +kernel
theorem dX5_follow_63 : decode cX5_follow 63 = .ok (.invokevirtual 153, 3) := by decide +kernel
theorem dX5_follow_66 : decode cX5_follow 66 = .ok (.aload 4, 2) := by decide +kernel
theorem dX5_follow_68 : decode cX5_follow 68 = .ok (.aload 4, 2) := by decide +kernel
theorem dX5_follow_70 : decode cX5_follow 70 = .ok (.getfield 132, 3) := by decide +kernel
theorem dX5_follow_73 : decode cX5_follow 73 = .ok (.putfield 157, 3) := by decide +kernel
theorem dX5_follow_76 : decode cX5_follow 76 = .ok (.aload 4, 2) := by decide +kernel
theorem dX5_follow_78 : decode cX5_follow 78 = .ok (.getfield 132, 3) := by decide +kernel
theorem dX5_follow_81 : decode cX5_follow 81 = .ok (.aload 5, 2) := by decide +kernel
theorem dX5_follow_83 : decode cX5_follow 83 = .ok (.getfield 132, 3) := by decide +kernel
theorem dX5_follow_86 : decode cX5_follow 86 = .ok (.if_icmp .ne 12, 3) := by decide +kernel
theorem dX5_follow_89 : decode cX5_follow 89 = .ok (.aload 4, 2) := by decide +kernel
theorem dX5_follow_91 : decode cX5_follow 91 = .ok (.aload_n 0, 1) := by decide +kernel
theorem dX5_follow_92 : decode cX5_follow 92 = .ok (.getfield 31, 3) := by decide +kernel
theorem dX5_follow_95 : decode cX5_follow 95 = .ok (.putfield 160, 3) := by decide +kernel
theorem dX5_follow_98 : decode cX5_follow 98 = .ok (.aload 4, 2) := by decide +kernel
theorem dX5_follow_100 : decode cX5_follow 100 = .ok (.getfield 132, 3) := by decide +kernel
theorem dX5_follow_103 : decode cX5_follow 103 = .ok (.aload 5, 2) := by decide +kernel
theorem dX5_follow_105 : decode cX5_follow 105 = .ok (.getfield 146, 3) := by decide +kernel
theorem dX5_follow_108 : decode cX5_follow 108 = .ok (.if_icmp .lt 15, 3) := by decide +kernel
theorem dX5_follow_111 : decode cX5_follow 111 = .ok (.aload_n 3, 1) := by decide +kernel
theorem dX5_follow_112 : decode cX5_follow 112 = .ok (.dup, 1) := by decide +kernel
theorem dX5_follow_113 : decode cX5_follow 113 = .ok (.getfield 58, 3) := by decide +kernel
theorem dX5_follow_116 : decode cX5_follow 116 = .ok (.iconst 1, 1) := by decide +kernel
theorem dX5_follow_117 : decode cX5_follow 117 = .ok (.iload_n 1, 1) := by decide +kernel
theorem dX5_follow_118 : decode cX5_follow 118 = .ok (.ishl, 1) := by decide +kernel
theorem dX5_follow_119 : decode cX5_follow 119 = .ok (.ior, 1) := by decide +kernel
theorem dX5_follow_120 : decode cX5_follow 120 = .ok (.putfield 58, 3) := by decide +kernel
theorem dX5_follow_123 : decode cX5_follow 123 = .ok (.aload_n 3, 1) := by decide +kernel
theorem dX5_follow_124 : decode cX5_follow 124 = .ok (.invokevirtual 129, 3) := by decide +kernel
theorem dX5_follow_127 : decode cX5_follow 127 = .ok (.aload 4, 2) := by decide +kernel
theorem dX5_follow_129 : decode cX5_follow 129 = .ok (.aload 5, 2) := by decide +kernel
theorem dX5_follow_131 : decode cX5_follow 131 = .ok (.invokevirtual 163, 3) := by decide +kernel
theorem dX5_follow_134 : decode cX5_follow 134 = .ok (.ireturn, 1) := by decide +kernel
set_option maxRecDepth 20000 in
theorem ggX5_consume_X5_partitionAt : GoodIn wsX5_consume wsX5_partitionAt := goodIn_r _ [8, 9, 72, 73, 74, 75, 76, 77] (by decide +kernel) (by decide +kernel)
set_option maxRecDepth 20000 in
theorem gX5_consume_X5_partitionAt : GoodIn wsX5_consume (wsV RX5 54 RX5 yX5_partitionAt wsX5_partitionAt) := goodIn_app (goodIn_of _ (by decide +kernel)) ggX5_consume_X5_partitionAt
set_option maxRecDepth 20000 in
theorem ggX5_consume_X2_leading : GoodIn wsX5_consume wsX2_leading := goodIn_r _ [14, 15, 16, 17, 18, 13, 19, 20, 78, 79, 80, 81, 82, 83] (by decide +kernel) (by decide +kernel)
set_option maxRecDepth 20000 in
theorem gX5_consume_X2_leading : GoodIn wsX5_consume (wsV RX5 88 RX2 yX2_leading wsX2_leading) := goodIn_app (goodIn_of _ (by decide +kernel)) ggX5_consume_X2_leading
set_option maxRecDepth 20000 in
theorem ggX5_consume_X4_firstVisible : GoodIn wsX5_consume wsX4_firstVisible := goodIn_r _ [25, 26, 27, 28, 29, 30, 31, 32, 33, 34, 24, 35, 36, 37, 38, 39, 40, 41, 42, 43, 44, 45, 46, 47, 48, 49, 50, 51, 52, 53, 54, 55, 56, 57, 58, 59, 60, 61, 62, 63, 65, 66, 67, 68, 69, 70, 71, 84, 85, 86, 87, 88, 89, 90, 91] (by decide +kernel) (by decide +kernel)
set_option maxRecDepth 20000 in
theorem gX5_consume_X4_firstVisible : GoodIn wsX5_consume (wsV RX5 170 RX4 yX4_firstVisible wsX4_firstVisible) := goodIn_app (goodIn_of _ (by decide +kernel)) ggX5_consume_X4_firstVisible
set_option maxRecDepth 20000 in
theorem ggX5_consume_X4_entryAt : GoodIn wsX5_consume wsX4_entryAt := goodIn_r _ [42, 36, 37, 43, 44, 45, 46, 47, 65, 66, 67, 68, 69, 70, 71] (by decide +kernel) (by decide +kernel)
set_option maxRecDepth 20000 in
theorem gX5_consume_X4_entryAt : GoodIn wsX5_consume (wsV RX5 174 RX4 yX4_entryAt wsX4_entryAt) := goodIn_app (goodIn_of _ (by decide +kernel)) ggX5_consume_X4_entryAt
theorem dX5_consume_0 : decode cX5_consume 0 = .ok (.aload_n 0, 1) := by decide +kernel
theorem dX5_consume_1 : decode cX5_consume 1 = .ok (.iload_n 1, 1) := by decide +kernel
theorem dX5_consume_2 : decode cX5_consume 2 = .ok (.invokevirtual 54, 3) := by decide +kernel
theorem dX5_consume_5 : decode cX5_consume 5 = .ok (.astore 4, 2) := by decide +kernel
theorem dX5_consume_7 : decode cX5_consume 7 = .ok (.aload 4, 2) := by decide +kernel
theorem dX5_consume_9 : decode cX5_consume 9 = .ok (.ifnonnull 5, 3) := by decide +kernel
theorem dX5_consume_12 : decode cX5_consume 12 = .ok (.iconst (-1), 1) := by decide +kernel
theorem dX5_consume_13 : decode cX5_consume 13 = .ok (.ireturn, 1) := by decide +kernel
theorem dX5_consume_14 : decode cX5_consume 14 = .ok (.aload 4, 2) := by decide +kernel
theorem dX5_consume_16 : decode cX5_consume 16 = .ok (.invokevirtual 88, 3) := by decide +kernel
theorem dX5_consume_19 : decode cX5_consume 19 = .ok (.astore 5, 2) := by decide +kernel
theorem dX5_consume_21 : decode cX5_consume 21 = .ok (.aload 5, 2) := by decide +kernel
theorem dX5_consume_23 : decode cX5_consume 23 = .ok (.ifnonnull 6, 3) := by decide +kernel
theorem dX5_consume_26 : decode cX5_consume 26 = .ok (.bipush (-2), 2) := by decide +kernel
theorem dX5_consume_28 : decode cX5_consume 28 = .ok (.ireturn, 1) := by decide +kernel
theorem dX5_consume_29 : decode cX5_consume 29 = .ok (.iload_n 2, 1) := by decide +kernel
theorem dX5_consume_30 : decode cX5_consume 30 = .ok (.aload 5, 2) := by decide +kernel
theorem dX5_consume_32 : decode cX5_consume 32 = .ok (.getfield 167, 3) := by decide +kernel
theorem dX5_consume_35 : decode cX5_consume 35 = .ok (.if_icmp .lt 12, 3) := by decide +kernel
theorem dX5_consume_38 : decode cX5_consume 38 = .ok (.iload_n 2, 1) := by decide +kernel
theorem dX5_consume_39 : decode cX5_consume 39 = .ok (.aload 5, 2) := by decide +kernel
theorem dX5_consume_41 : decode cX5_consume 41 = .ok (.getfield 146, 3) := by decide +kernel
theorem dX5_consume_44 : decode cX5_consume 44 = .ok (.if_icmp .le 5, 3) := by decide +kernel
theorem dX5_consume_47 : decode cX5_consume 47 = .ok (.iconst (-1), 1) := by decide +kernel
theorem dX5_consume_48 : decode cX5_consume 48 = .ok (.ireturn, 1) := by decide +kernel
theorem dX5_consume_49 : decode cX5_consume 49 = .ok (.aload 5, 2) := by decide +kernel
theorem dX5_consume_51 : decode cX5_consume 51 = .ok (.iload_n 2, 1) := by decide +kernel
theorem dX5_consume_52 : decode cX5_consume 52 = .ok (.iload_n 3, 1) := by decide +kernel
theorem dX5_consume_53 : decode cX5_consume 53 = .ok (.invokevirtual 170, 3) := by decide +kernel
theorem dX5_consume_56 : decode cX5_consume 56 = .ok (.istore 6, 2) := by decide +kernel
theorem dX5_consume_58 : decode cX5_consume 58 = .ok (.aload 5, 2) := by decide +kernel
theorem dX5_consume_60 : decode cX5_consume 60 = .ok (.iload 6, 2) := by decide +kernel
theorem dX5_consume_62 : decode cX5_consume 62 = .ok (.invokevirtual 174, 3) := by decide +kernel
theorem dX5_consume_65 : decode cX5_consume 65 = .ok (.astore 7, 2) := by decide +kernel
theorem dX5_consume_67 : decode cX5_consume 67 = .ok (.aload 7, 2) := by decide +kernel
theorem dX5_consume_69 : decode cX5_consume 69 = .ok (.ifnonnull 6, 3) := by decide +kernel
theorem dX5_consume_72 : decode cX5_consume 72 = .ok (.bipush (-2), 2) := by decide +kernel
theorem dX5_consume_74 : decode cX5_consume 74 = .ok (.ireturn, 1) := by decide +kernel
theorem dX5_consume_75 : decode cX5_consume 75 = .ok (.aload_n 0, 1) := by decide +kernel
theorem dX5_consume_76 : decode cX5_consume 76 = .ok (.aload 7, 2) := by decide +kernel
theorem dX5_consume_78 : decode cX5_consume 78 = .ok (.putfield 34, 3) := by decide +kernel
theorem dX5_consume_81 : decode cX5_consume 81 = .ok (.iload 6, 2) := by decide +kernel
theorem dX5_consume_83 : decode cX5_consume 83 = .ok (.ireturn, 1) := by decide +kernel
theorem dX5_seen_0 : decode cX5_seen 0 = .ok (.aload_n 0, 1) := by decide +kernel
theorem dX5_seen_1 : decode cX5_seen 1 = .ok (.getfield 34, 3) := by decide +kernel
theorem dX5_seen_4 : decode cX5_seen 4 = .ok (.ifnonnull 5, 3) := by decide +kernel
theorem dX5_seen_7 : decode cX5_seen 7 = .ok (.iconst 0, 1) := by decide +kernel
theorem dX5_seen_8 : decode cX5_seen 8 = .ok (.ireturn, 1) := by decide +kernel
theorem dX5_seen_9 : decode cX5_seen 9 = .ok (.iload_n 1, 1) := by decide +kernel
theorem dX5_seen_10 : decode cX5_seen 10 = .ok (.tableswitch 86 0 5 #[38, 46, 54, 62, 70, 78], 38) := by decide +kernel
theorem dX5_seen_48 : decode cX5_seen 48 = .ok (.aload_n 0, 1) := by decide +kernel
theorem dX5_seen_49 : decode cX5_seen 49 = .ok (.getfield 34, 3) := by decide +kernel
theorem dX5_seen_52 : decode cX5_seen 52 = .ok (.getfield 178, 3) := by decide +kernel
theorem dX5_seen_55 : decode cX5_seen 55 = .ok (.ireturn, 1) := by decide +kernel
theorem dX5_seen_56 : decode cX5_seen 56 = .ok (.aload_n 0, 1) := by decide +kernel
theorem dX5_seen_57 : decode cX5_seen 57 = .ok (.getfield 34, 3) := by decide +kernel
theorem dX5_seen_60 : decode cX5_seen 60 = .ok (.getfield 181, 3) := by decide +kernel
theorem dX5_seen_63 : decode cX5_seen 63 = .ok (.ireturn, 1) := by decide +kernel
theorem dX5_seen_64 : decode cX5_seen 64 = .ok (.aload_n 0, 1) := by decide +kernel
theorem dX5_seen_65 : decode cX5_seen 65 = .ok (.getfield 34, 3) := by decide +kernel
theorem dX5_seen_68 : decode cX5_seen 68 = .ok (.getfield 184, 3) := by decide +kernel
theorem dX5_seen_71 : decode cX5_seen 71 = .ok (.ireturn, 1) := by decide +kernel
theorem dX5_seen_72 : decode cX5_seen 72 = .ok (.aload_n 0, 1) := by decide +kernel
theorem dX5_seen_73 : decode cX5_seen 73 = .ok (.getfield 34, 3) := by decide +kernel
theorem dX5_seen_76 : decode cX5_seen 76 = .ok (.getfield 185, 3) := by decide +kernel
theorem dX5_seen_79 : decode cX5_seen 79 = .ok (.ireturn, 1) := by decide +kernel
theorem dX5_seen_80 : decode cX5_seen 80 = .ok (.aload_n 0, 1) := by decide +kernel
theorem dX5_seen_81 : decode cX5_seen 81 = .ok (.getfield 34, 3) := by decide +kernel
theorem dX5_seen_84 : decode cX5_seen 84 = .ok (.getfield 188, 3) := by decide +kernel
theorem dX5_seen_87 : decode cX5_seen 87 = .ok (.ireturn, 1) := by decide +kernel
theorem dX5_seen_88 : decode cX5_seen 88 = .ok (.aload_n 0, 1) := by decide +kernel
theorem dX5_seen_89 : decode cX5_seen 89 = .ok (.getfield 34, 3) := by decide +kernel
theorem dX5_seen_92 : decode cX5_seen 92 = .ok (.getfield 191, 3) := by decide +kernel
theorem dX5_seen_95 : decode cX5_seen 95 = .ok (.ireturn, 1) := by decide +kernel
theorem dX5_seen_96 : decode cX5_seen 96 = .ok (.iconst 0, 1) := by decide +kernel
theorem dX5_seen_97 : decode cX5_seen 97 = .ok (.ireturn, 1) := by decide +kernel
set_option maxRecDepth 20000 in
theorem ggX5_member_X5_groupAt : GoodIn wsX5_member wsX5_groupAt := goodIn_r _ [7, 8, 12, 13, 14, 15, 16, 17] (by decide +kernel) (by decide +kernel)
set_option maxRecDepth 20000 in
theorem gX5_member_X5_groupAt : GoodIn wsX5_member (wsV RX5 194 RX5 yX5_groupAt wsX5_groupAt) := goodIn_app (goodIn_of _ (by decide +kernel)) ggX5_member_X5_groupAt
theorem dX5_member_0 : decode cX5_member 0 = .ok (.aload_n 0, 1) := by decide +kernel
theorem dX5_member_1 : decode cX5_member 1 = .ok (.iload_n 1, 1) := by decide +kernel
theorem dX5_member_2 : decode cX5_member 2 = .ok (.invokevirtual 194, 3) := by decide +kernel
theorem dX5_member_5 : decode cX5_member 5 = .ok (.astore_n 3, 1) := by decide +kernel
theorem dX5_member_6 : decode cX5_member 6 = .ok (.aload_n 3, 1) := by decide +kernel
theorem dX5_member_7 : decode cX5_member 7 = .ok (.ifnull 13, 3) := by decide +kernel
theorem dX5_member_10 : decode cX5_member 10 = .ok (.iload_n 2, 1) := by decide +kernel
theorem dX5_member_11 : decode cX5_member 11 = .ok (.ifCond .lt 9, 3) := by decide +kernel
theorem dX5_member_14 : decode cX5_member 14 = .ok (.iload_n 2, 1) := by decide +kernel
theorem dX5_member_15 : decode cX5_member 15 = .ok (.bipush 8, 2) := by decide +kernel
theorem dX5_member_17 : decode cX5_member 17 = .ok (.if_icmp .lt 5, 3) := by decide +kernel
theorem dX5_member_20 : decode cX5_member 20 = .ok (.iconst (-1), 1) := by decide +kernel
theorem dX5_member_21 : decode cX5_member 21 = .ok (.ireturn, 1) := by decide +kernel
theorem dX5_member_22 : decode cX5_member 22 = .ok (.aload_n 3, 1) := by decide +kernel
theorem dX5_member_23 : decode cX5_member 23 = .ok (.dup, 1) := by decide +kernel
theorem dX5_member_24 : decode cX5_member 24 = .ok (.getfield 198, 3) := by decide +kernel
theorem dX5_member_27 : decode cX5_member 27 = .ok (.iconst 1, 1) := by decide +kernel
theorem dX5_member_28 : decode cX5_member 28 = .ok (.iload_n 2, 1) := by decide +kernel
theorem dX5_member_29 : decode cX5_member 29 = .ok (.ishl, 1) := by decide +kernel
theorem dX5_member_30 : decode cX5_member 30 = .ok (.ixor, 1) := by decide +kernel
theorem dX5_member_31 : decode cX5_member 31 = .ok (.putfield 198, 3) := by decide +kernel
theorem dX5_member_34 : decode cX5_member 34 = .ok (.aload_n 3, 1) := by decide +kernel
theorem dX5_member_35 : decode cX5_member 35 = .ok (.dup, 1) := by decide +kernel
theorem dX5_member_36 : decode cX5_member 36 = .ok (.getfield 201, 3) := by decide +kernel
theorem dX5_member_39 : decode cX5_member 39 = .ok (.iconst 1, 1) := by decide +kernel
theorem dX5_member_40 : decode cX5_member 40 = .ok (.iadd, 1) := by decide +kernel
theorem dX5_member_41 : decode cX5_member 41 = .ok (.putfield 201, 3) := by decide +kernel
theorem dX5_member_44 : decode cX5_member 44 = .ok (.aload_n 3, 1) := by decide +kernel
theorem dX5_member_45 : decode cX5_member 45 = .ok (.getfield 201, 3) := by decide +kernel
theorem dX5_member_48 : decode cX5_member 48 = .ok (.ireturn, 1) := by decide +kernel
set_option maxRecDepth 20000 in
theorem ggX5_owner_X5_groupAt : GoodIn wsX5_owner wsX5_groupAt := goodIn_r _ [5, 6, 31, 32, 33, 34, 35, 36] (by decide +kernel) (by decide +kernel)
set_option maxRecDepth 20000 in
theorem gX5_owner_X5_groupAt : GoodIn wsX5_owner (wsV RX5 194 RX5 yX5_groupAt wsX5_groupAt) := goodIn_app (goodIn_of _ (by decide +kernel)) ggX5_owner_X5_groupAt
set_option maxRecDepth 20000 in
theorem ggX5_owner_X5_partitionAt : GoodIn wsX5_owner wsX5_partitionAt := goodIn_r _ [10, 11, 31, 32, 33, 34, 35, 36] (by decide +kernel) (by decide +kernel)
set_option maxRecDepth 20000 in
theorem gX5_owner_X5_partitionAt : GoodIn wsX5_owner (wsV RX5 54 RX5 yX5_partitionAt wsX5_partitionAt) := goodIn_app (goodIn_of _ (by decide +kernel)) ggX5_owner_X5_partitionAt
set_option maxRecDepth 20000 in
theorem ggX5_owner_X5_placeOf : GoodIn wsX5_owner wsX5_placeOf := goodIn_r _ [15, 11, 31, 32, 33, 34, 35, 36] (by decide +kernel) (by decide +kernel)
set_option maxRecDepth 20000 in
theorem gX5_owner_X5_placeOf : GoodIn wsX5_owner (wsV RX5 204 RX5 yX5_placeOf wsX5_placeOf) := goodIn_app (goodIn_of _ (by decide +kernel)) ggX5_owner_X5_placeOf
set_option maxRecDepth 20000 in
theorem ggX5_owner_X1_memberAt : GoodIn wsX5_owner wsX1_memberAt := goodIn_r _ [20, 21, 22, 23, 24, 25, 26, 27, 28, 29, 4, 30, 37, 38, 39] (by decide +kernel) (by decide +kernel)
set_option maxRecDepth 20000 in
theorem gX5_owner_X1_memberAt : GoodIn wsX5_owner (wsV RX5 207 RX1 yX1_memberAt wsX1_memberAt) := goodIn_app (goodIn_of _ (by decide +kernel)) ggX5_owner_X1_memberAt
theorem dX5_owner_0 : decode cX5_owner 0 = .ok (.aload_n 0, 1) := by decide +kernel
theorem dX5_owner_1 : decode cX5_owner 1 = .ok (.iload_n 1, 1) := by decide +kernel
theorem dX5_owner_2 : decode cX5_owner 2 = .ok (.invokevirtual 194, 3) := by decide +kernel
theorem dX5_owner_5 : decode cX5_owner 5 = .ok (.astore_n 3, 1) := by decide +kernel
theorem dX5_owner_6 : decode cX5_owner 6 = .ok (.aload_n 3, 1) := by decide +kernel
theorem dX5_owner_7 : decode cX5_owner 7 = .ok (.ifnull 11, 3) := by decide +kernel
theorem dX5_owner_10 : decode cX5_owner 10 = .ok (.aload_n 0, 1) := by decide +kernel
theorem dX5_owner_11 : decode cX5_owner 11 = .ok (.iload_n 2, 1) := by decide +kernel
theorem dX5_owner_12 : decode cX5_owner 12 = .ok (.invokevirtual 54, 3) := by decide +kernel
theorem dX5_owner_15 : decode cX5_owner 15 = .ok (.ifnonnull 5, 3) := by decide +kernel
theorem dX5_owner_18 : decode cX5_owner 18 = .ok (.iconst (-1), 1) := by decide +kernel
theorem dX5_owner_19 : decode cX5_owner 19 = .ok (.ireturn, 1) := by decide +kernel
theorem dX5_owner_20 : decode cX5_owner 20 = .ok (.aload_n 3, 1) := by decide +kernel
theorem dX5_owner_21 : decode cX5_owner 21 = .ok (.aload_n 0, 1) := by decide +kernel
theorem dX5_owner_22 : decode cX5_owner 22 = .ok (.iload_n 2, 1) := by decide +kernel
theorem dX5_owner_23 : decode cX5_owner 23 = .ok (.invokevirtual 204, 3) := by decide +kernel
theorem dX5_owner_26 : decode cX5_owner 26 = .ok (.invokevirtual 207, 3) := by decide +kernel
theorem dX5_owner_29 : decode cX5_owner 29 = .ok (.istore 4, 2) := by decide +kernel
theorem dX5_owner_31 : decode cX5_owner 31 = .ok (.iload 4, 2) := by decide +kernel
theorem dX5_owner_33 : decode cX5_owner 33 = .ok (.iconst (-1), 1) := by decide +kernel
theorem dX5_owner_34 : decode cX5_owner 34 = .ok (.if_icmp .ne 8, 3) := by decide +kernel
theorem dX5_owner_37 : decode cX5_owner 37 = .ok (.bipush (-2), 2) := by decide +kernel
theorem dX5_owner_39 : decode cX5_owner 39 = .ok (.goto 5, 3) := by decide +kernel
theorem dX5_owner_42 : decode cX5_owner 42 = .ok (.iload 4, 2) := by decide +kernel
theorem dX5_owner_44 : decode cX5_owner 44 = .ok (.ireturn, 1) := by decide +kernel
set_option maxRecDepth 20000 in
theorem ggX5_move_X5_groupAt : GoodIn wsX5_move wsX5_groupAt := goodIn_r _ [6, 7, 40, 41, 42, 43, 44, 45] (by decide +kernel) (by decide +kernel)
set_option maxRecDepth 20000 in
theorem gX5_move_X5_groupAt : GoodIn wsX5_move (wsV RX5 194 RX5 yX5_groupAt wsX5_groupAt) := goodIn_app (goodIn_of _ (by decide +kernel)) ggX5_move_X5_groupAt
set_option maxRecDepth 20000 in
theorem ggX5_move_X5_partitionAt : GoodIn wsX5_move wsX5_partitionAt := goodIn_r _ [11, 12, 40, 41, 42, 43, 44, 45] (by decide +kernel) (by decide +kernel)
set_option maxRecDepth 20000 in
theorem gX5_move_X5_partitionAt : GoodIn wsX5_move (wsV RX5 54 RX5 yX5_partitionAt wsX5_partitionAt) := goodIn_app (goodIn_of _ (by decide +kernel)) ggX5_move_X5_partitionAt
set_option maxRecDepth 20000 in
theorem ggX5_move_X5_placeOf : GoodIn wsX5_move wsX5_placeOf := goodIn_r _ [16, 12, 40, 41, 42, 43, 44, 45] (by decide +kernel) (by decide +kernel)
set_option maxRecDepth 20000 in
theorem gX5_move_X5_placeOf : GoodIn wsX5_move (wsV RX5 204 RX5 yX5_placeOf wsX5_placeOf) := goodIn_app (goodIn_of _ (by decide +kernel)) ggX5_move_X5_placeOf
set_option maxRecDepth 20000 in
theorem ggX5_move_X1_memberAt : GoodIn wsX5_move wsX1_memberAt := goodIn_r _ [21, 22, 23, 24, 25, 26, 27, 28, 29, 30, 5, 31, 37, 38, 39] (by decide +kernel) (by decide +kernel)
set_option maxRecDepth 20000 in
theorem gX5_move_X1_memberAt : GoodIn wsX5_move (wsV RX5 207 RX1 yX1_memberAt wsX1_memberAt) := goodIn_app (goodIn_of _ (by decide +kernel)) ggX5_move_X1_memberAt
set_option maxRecDepth 20000 in
theorem ggX5_move_X1_setOffset : GoodIn wsX5_move wsX1_setOffset := goodIn_r _ [35, 36, 37, 38, 39] (by decide +kernel) (by decide +kernel)
set_option maxRecDepth 20000 in
theorem gX5_move_X1_setOffset : GoodIn wsX5_move (wsV RX5 210 RX1 yX1_setOffset wsX1_setOffset) := goodIn_app (goodIn_of _ (by decide +kernel)) ggX5_move_X1_setOffset
theorem dX5_move_0 : decode cX5_move 0 = .ok (.aload_n 0, 1) := by decide +kernel
theorem dX5_move_1 : decode cX5_move 1 = .ok (.iload_n 1, 1) := by decide +kernel
theorem dX5_move_2 : decode cX5_move 2 = .ok (.invokevirtual 194, 3) := by decide +kernel
theorem dX5_move_5 : decode cX5_move 5 = .ok (.astore 6, 2) := by decide +kernel
theorem dX5_move_7 : decode cX5_move 7 = .ok (.aload 6, 2) := by decide +kernel
theorem dX5_move_9 : decode cX5_move 9 = .ok (.ifnull 17, 3) := by decide +kernel
theorem dX5_move_12 : decode cX5_move 12 = .ok (.aload_n 0, 1) := by decide +kernel
theorem dX5_move_13 : decode cX5_move 13 = .ok (.iload 4, 2) := by decide +kernel
theorem dX5_move_15 : decode cX5_move 15 = .ok (.invokevirtual 54, 3) := by decide +kernel
theorem dX5_move_18 : decode cX5_move 18 = .ok (.ifnull 8, 3) := by decide +kernel
theorem dX5_move_21 : decode cX5_move 21 = .ok (.iload 5, 2) := by decide +kernel
theorem dX5_move_23 : decode cX5_move 23 = .ok (.ifCond .ge 5, 3) := by decide +kernel
theorem dX5_move_26 : decode cX5_move 26 = .ok (.iconst (-1), 1) := by decide +kernel
theorem dX5_move_27 : decode cX5_move 27 = .ok (.ireturn, 1) := by decide +kernel
theorem dX5_move_28 : decode cX5_move 28 = .ok (.iload_n 2, 1) := by decide +kernel
theorem dX5_move_29 : decode cX5_move 29 = .ok (.ifCond .lt 27, 3) := by decide +kernel
theorem dX5_move_32 : decode cX5_move 32 = .ok (.iload_n 2, 1) := by decide +kernel
theorem dX5_move_33 : decode cX5_move 33 = .ok (.aload 6, 2) := by decide +kernel
theorem dX5_move_35 : decode cX5_move 35 = .ok (.aload_n 0, 1) := by decide +kernel
theorem dX5_move_36 : decode cX5_move 36 = .ok (.iload 4, 2) := by decide +kernel
theorem dX5_move_38 : decode cX5_move 38 = .ok (.invokevirtual 204, 3) := by decide +kernel
theorem dX5_move_41 : decode cX5_move 41 = .ok (.invokevirtual 207, 3) := by decide +kernel
theorem dX5_move_44 : decode cX5_move 44 = .ok (.if_icmp .ne 12, 3) := by decide +kernel
theorem dX5_move_47 : decode cX5_move 47 = .ok (.iload_n 3, 1) := by decide +kernel
theorem dX5_move_48 : decode cX5_move 48 = .ok (.aload 6, 2) := by decide +kernel
theorem dX5_move_50 : decode cX5_move 50 = .ok (.getfield 201, 3) := by decide +kernel
theorem dX5_move_53 : decode cX5_move 53 = .ok (.if_icmp .eq 6, 3) := by decide +kernel
theorem dX5_move_56 : decode cX5_move 56 = .ok (.bipush (-4), 2) := by decide +kernel
theorem dX5_move_58 : decode cX5_move 58 = .ok (.ireturn, 1) := by decide +kernel
theorem dX5_move_59 : decode cX5_move 59 = .ok (.aload 6, 2) := by decide +kernel
theorem dX5_move_61 : decode cX5_move 61 = .ok (.iload 4, 2) := by decide +kernel
theorem dX5_move_63 : decode cX5_move 63 = .ok (.iload 5, 2) := by decide +kernel
theorem dX5_move_65 : decode cX5_move 65 = .ok (.invokevirtual 210, 3) := by decide +kernel
theorem dX5_move_68 : decode cX5_move 68 = .ok (.iconst 0, 1) := by decide +kernel
theorem dX5_move_69 : decode cX5_move 69 = .ok (.ireturn, 1) := by decide +kernel
set_option maxRecDepth 20000 in
theorem ggX5_position_X5_groupAt : GoodIn wsX5_position wsX5_groupAt := goodIn_r _ [5, 6, 18, 19, 20, 21, 22, 23] (by decide +kernel) (by decide +kernel)
set_option maxRecDepth 20000 in
theorem gX5_position_X5_groupAt : GoodIn wsX5_position (wsV RX5 194 RX5 yX5_groupAt wsX5_groupAt) := goodIn_app (goodIn_of _ (by decide +kernel)) ggX5_position_X5_groupAt
set_option maxRecDepth 20000 in
theorem ggX5_position_X5_partitionAt : GoodIn wsX5_position wsX5_partitionAt := goodIn_r _ [10, 11, 18, 19, 20, 21, 22, 23] (by decide +kernel) (by decide +kernel)
set_option maxRecDepth 20000 in
theorem gX5_position_X5_partitionAt : GoodIn wsX5_position (wsV RX5 54 RX5 yX5_partitionAt wsX5_partitionAt) := goodIn_app (goodIn_of _ (by decide +kernel)) ggX5_position_X5_partitionAt
set_option maxRecDepth 20000 in
theorem ggX5_position_X1_offsetFor : GoodIn wsX5_position wsX1_offsetFor := goodIn_r _ [16, 17, 24, 25, 26] (by decide +kernel) (by decide +kernel)
set_option maxRecDepth 20000 in
theorem gX5_position_X1_offsetFor : GoodIn wsX5_position (wsV RX5 213 RX1 yX1_offsetFor wsX1_offsetFor) := goodIn_app (goodIn_of _ (by decide +kernel)) ggX5_position_X1_offsetFor
theorem dX5_position_0 : decode cX5_position 0 = .ok (.aload_n 0, 1) := by decide +kernel
theorem dX5_position_1 : decode cX5_position 1 = .ok (.iload_n 1, 1) := by decide +kernel
theorem dX5_position_2 : decode cX5_position 2 = .ok (.invokevirtual 194, 3) := by decide +kernel
theorem dX5_position_5 : decode cX5_position 5 = .ok (.astore_n 3, 1) := by decide +kernel
theorem dX5_position_6 : decode cX5_position 6 = .ok (.aload_n 3, 1) := by decide +kernel
theorem dX5_position_7 : decode cX5_position 7 = .ok (.ifnull 11, 3) := by decide +kernel
theorem dX5_position_10 : decode cX5_position 10 = .ok (.aload_n 0, 1) := by decide +kernel
theorem dX5_position_11 : decode cX5_position 11 = .ok (.iload_n 2, 1) := by decide +kernel
theorem dX5_position_12 : decode cX5_position 12 = .ok (.invokevirtual 54, 3) := by decide +kernel
theorem dX5_position_15 : decode cX5_position 15 = .ok (.ifnonnull 5, 3) := by decide +kernel
theorem dX5_position_18 : decode cX5_position 18 = .ok (.iconst (-1), 1) := by decide +kernel
theorem dX5_position_19 : decode cX5_position 19 = .ok (.ireturn, 1) := by decide +kernel
theorem dX5_position_20 : decode cX5_position 20 = .ok (.aload_n 3, 1) := by decide +kernel
theorem dX5_position_21 : decode cX5_position 21 = .ok (.iload_n 2, 1) := by decide +kernel
theorem dX5_position_22 : decode cX5_position 22 = .ok (.invokevirtual 213, 3) := by decide +kernel
theorem dX5_position_25 : decode cX5_position 25 = .ok (.ireturn, 1) := by decide +kernel
set_option maxRecDepth 20000 in
theorem ggX5_tick_X2_dropLate : GoodIn wsX5_tick wsX2_dropLate := goodIn_r _ [7, 8, 9, 10, 11, 12, 13, 14, 6, 15, 16, 17, 18, 19, 20, 21, 22, 23, 24, 25, 26, 27, 28, 29, 30, 31, 32, 33, 34, 35, 36, 37, 38, 39, 40, 47, 48, 49, 50, 51, 52, 53, 54, 55, 56, 57, 58, 59] (by decide +kernel) (by decide +kernel)
set_option maxRecDepth 20000 in
theorem gX5_tick_X2_dropLate : GoodIn wsX5_tick (wsV RX5 216 RX2 yX2_dropLate wsX2_dropLate) := goodIn_app (goodIn_of _ (by decide +kernel)) ggX5_tick_X2_dropLate
theorem dX5_tick_0 : decode cX5_tick 0 = .ok (.iload_n 1, 1) := by decide +kernel
theorem dX5_tick_1 : decode cX5_tick 1 = .ok (.iconst 1, 1) := by decide +kernel
theorem dX5_tick_2 : decode cX5_tick 2 = .ok (.if_icmp .lt 9, 3) := by decide +kernel
theorem dX5_tick_5 : decode cX5_tick 5 = .ok (.iload_n 1, 1) := by decide +kernel
theorem dX5_tick_6 : decode cX5_tick 6 = .ok (.bipush 50, 2) := by decide +kernel
theorem dX5_tick_8 : decode cX5_tick 8 = .ok (.if_icmp .le 5, 3) := by decide +kernel
theorem dX5_tick_11 : decode cX5_tick 11 = .ok (.iconst (-1), 1) := by decide +kernel
theorem dX5_tick_12 : decode cX5_tick 12 = .ok (.ireturn, 1) := by decide +kernel
theorem dX5_tick_13 : decode cX5_tick 13 = .ok (.aload_n 0, 1) := by decide +kernel
theorem dX5_tick_14 : decode cX5_tick 14 = .ok (.dup, 1) := by decide +kernel
theorem dX5_tick_15 : decode cX5_tick 15 = .ok (.getfield 31, 3) := by decide +kernel
theorem dX5_tick_18 : decode cX5_tick 18 = .ok (.iload_n 1, 1) := by decide +kernel
theorem dX5_tick_19 : decode cX5_tick 19 = .ok (.iadd, 1) := by decide +kernel
theorem dX5_tick_20 : decode cX5_tick 20 = .ok (.putfield 31, 3) := by decide +kernel
theorem dX5_tick_23 : decode cX5_tick 23 = .ok (.iconst 0, 1) := by decide +kernel
theorem dX5_tick_24 : decode cX5_tick 24 = .ok (.istore_n 2, 1) := by decide +kernel
theorem dX5_tick_25 : decode cX5_tick 25 = .ok (.iconst 0, 1) := by decide +kernel
theorem dX5_tick_26 : decode cX5_tick 26 = .ok (.istore_n 3, 1) := by decide +kernel
theorem dX5_tick_27 : decode cX5_tick 27 = .ok (.iload_n 3, 1) := by decide +kernel
theorem dX5_tick_28 : decode cX5_tick 28 = .ok (.iconst 4, 1) := by decide +kernel
theorem dX5_tick_29 : decode cX5_tick 29 = .ok (.if_icmp .ge 34, 3) := by decide +kernel
theorem dX5_tick_32 : decode cX5_tick 32 = .ok (.aload_n 0, 1) := by decide +kernel
theorem dX5_tick_33 : decode cX5_tick 33 = .ok (.getfield 11, 3) := by decide +kernel
theorem dX5_tick_36 : decode cX5_tick 36 = .ok (.iload_n 3, 1) := by decide +kernel
theorem dX5_tick_37 : decode cX5_tick 37 = .ok (.aaload, 1) := by decide +kernel
theorem dX5_tick_38 : decode cX5_tick 38 = .ok (.astore 4, 2) := by decide +kernel
theorem dX5_tick_40 : decode cX5_tick 40 = .ok (.aload 4, 2) := by decide +kernel
theorem dX5_tick_42 : decode cX5_tick 42 = .ok (.ifnull 15, 3) := by decide +kernel
theorem dX5_tick_45 : decode cX5_tick 45 = .ok (.iload_n 2, 1) := by decide +kernel
theorem dX5_tick_46 : decode cX5_tick 46 = .ok (.aload 4, 2) := by decide +kernel
theorem dX5_tick_48 : decode cX5_tick 48 = .ok (.aload_n 0, 1) := by decide +kernel
theorem dX5_tick_49 : decode cX5_tick 49 = .ok (.getfield 31, 3) := by decide +kernel
theorem dX5_tick_52 : decode cX5_tick 52 = .ok (.invokevirtual 216, 3) := by decide +kernel
theorem dX5_tick_55 : decode cX5_tick 55 = .ok (.iadd, 1) := by decide +kernel
theorem dX5_tick_56 : decode cX5_tick 56 = .ok (.istore_n 2, 1) := by decide +kernel
theorem dX5_tick_57 : decode cX5_tick 57 = .ok (.iinc 3 1, 3) := by decide +kernel
theorem dX5_tick_60 : decode cX5_tick 60 = .ok (.goto (-33), 3) := by decide +kernel
theorem dX5_tick_63 : decode cX5_tick 63 = .ok (.iload_n 2, 1) := by decide +kernel
theorem dX5_tick_64 : decode cX5_tick 64 = .ok (.ireturn, 1) := by decide +kernel
set_option maxRecDepth 20000 in
theorem ggX5_flush_X5_replicaOf : GoodIn wsX5_flush wsX5_replicaOf := goodIn_r _ [8, 9, 10, 11, 7, 12, 13, 14, 15, 16, 17, 18, 19, 23, 24, 25, 26, 27, 28, 36, 37, 38, 39, 40, 41] (by decide +kernel) (by decide +kernel)
set_option maxRecDepth 20000 in
theorem gX5_flush_X5_replicaOf : GoodIn wsX5_flush (wsV RX5 219 RX5 yX5_replicaOf wsX5_replicaOf) := goodIn_app (goodIn_of _ (by decide +kernel)) ggX5_flush_X5_replicaOf
set_option maxRecDepth 20000 in
theorem ggX5_flush_X5_contains : GoodIn wsX5_flush wsX5_contains := goodIn_r _ [22] (by decide +kernel) (by decide +kernel)
set_option maxRecDepth 20000 in
theorem gX5_flush_X5_contains : GoodIn wsX5_flush (va_wsS RX5 138 yX5_contains wsX5_contains) := goodIn_app (goodIn_of _ (by decide +kernel)) ggX5_flush_X5_contains
theorem dX5_flush_0 : decode cX5_flush 0 = .ok (.aload_n 0, 1) := by decide +kernel
theorem dX5_flush_1 : decode cX5_flush 1 = .ok (.iload_n 1, 1) := by decide +kernel
theorem dX5_flush_2 : decode cX5_flush 2 = .ok (.iload_n 2, 1) := by decide +kernel
theorem dX5_flush_3 : decode cX5_flush 3 = .ok (.invokevirtual 219, 3) := by decide +kernel
theorem dX5_flush_6 : decode cX5_flush 6 = .ok (.astore_n 3, 1) := by decide +kernel
theorem dX5_flush_7 : decode cX5_flush 7 = .ok (.aload_n 3, 1) := by decide +kernel
theorem dX5_flush_8 : decode cX5_flush 8 = .ok (.ifnull 14, 3) := by decide +kernel
theorem dX5_flush_11 : decode cX5_flush 11 = .ok (.aload_n 0, 1) := by decide +kernel
theorem dX5_flush_12 : decode cX5_flush 12 = .ok (.getfield 27, 3) := by decide +kernel
theorem dX5_flush_15 : decode cX5_flush 15 = .ok (.iload_n 1, 1) := by decide +kernel
theorem dX5_flush_16 : decode cX5_flush 16 = .ok (.invokestatic 138, 3) := by decide +kernel
theorem dX5_flush_19 : decode cX5_flush 19 = .ok (.ifCond .ne 5, 3) := by decide +kernel
theorem dX5_flush_22 : decode cX5_flush 22 = .ok (.iconst (-1), 1) := by decide +kernel
theorem dX5_flush_23 : decode cX5_flush 23 = .ok (.ireturn, 1) := by decide +kernel
theorem dX5_flush_24 : decode cX5_flush 24 = .ok (.aload_n 3, 1) := by decide +kernel
theorem dX5_flush_25 : decode cX5_flush 25 = .ok (.getfield 132, 3) := by decide +kernel
theorem dX5_flush_28 : decode cX5_flush 28 = .ok (.aload_n 3, 1) := by decide +kernel
theorem dX5_flush_29 : decode cX5_flush 29 = .ok (.getfield 223, 3) := by decide +kernel
theorem dX5_flush_32 : decode cX5_flush 32 = .ok (.isub, 1) := by decide +kernel
theorem dX5_flush_33 : decode cX5_flush 33 = .ok (.istore 4, 2) := by decide +kernel
theorem dX5_flush_35 : decode cX5_flush 35 = .ok (.aload_n 3, 1) := by decide +kernel
theorem dX5_flush_36 : decode cX5_flush 36 = .ok (.aload_n 3, 1) := by decide +kernel
theorem dX5_flush_37 : decode cX5_flush 37 = .ok (.getfield 132, 3) := by decide +kernel
theorem dX5_flush_40 : decode cX5_flush 40 = .ok (.putfield 223, 3) := by decide +kernel
theorem dX5_flush_43 : decode cX5_flush 43 = .ok (.iload 4, 2) := by decide +kernel
theorem dX5_flush_45 : decode cX5_flush 45 = .ok (.ireturn, 1) := by decide +kernel
set_option maxRecDepth 20000 in
theorem ggX5_crash_X5_contains : GoodIn wsX5_crash wsX5_contains := goodIn_r _ [7] (by decide +kernel) (by decide +kernel)
set_option maxRecDepth 20000 in
theorem gX5_crash_X5_contains : GoodIn wsX5_crash (va_wsS RX5 138 yX5_contains wsX5_contains) := goodIn_app (goodIn_of _ (by decide +kernel)) ggX5_crash_X5_contains
set_option maxRecDepth 20000 in
theorem ggX5_crash_X2_lose : GoodIn wsX5_crash wsX2_lose := goodIn_r _ [12, 13, 14, 15, 16, 17, 11, 18, 19, 20, 21, 22, 23, 24, 25, 26, 27, 28, 29, 30, 31, 32, 33, 34, 35, 36, 37, 38, 39, 40, 41, 42, 43, 44, 45, 5, 6, 7, 46, 47, 48, 49, 50, 57, 58, 59, 60, 61, 62, 63, 64, 65, 66, 67, 68, 69] (by decide +kernel) (by decide +kernel)
set_option maxRecDepth 20000 in
theorem gX5_crash_X2_lose : GoodIn wsX5_crash (wsV RX5 226 RX2 yX2_lose wsX2_lose) := goodIn_app (goodIn_of _ (by decide +kernel)) ggX5_crash_X2_lose
theorem dX5_crash_0 : decode cX5_crash 0 = .ok (.aload_n 0, 1) := by decide +kernel
theorem dX5_crash_1 : decode cX5_crash 1 = .ok (.getfield 27, 3) := by decide +kernel
theorem dX5_crash_4 : decode cX5_crash 4 = .ok (.iload_n 1, 1) := by decide +kernel
theorem dX5_crash_5 : decode cX5_crash 5 = .ok (.invokestatic 138, 3) := by decide +kernel
theorem dX5_crash_8 : decode cX5_crash 8 = .ok (.ifCond .eq 7, 3) := by decide +kernel
theorem dX5_crash_11 : decode cX5_crash 11 = .ok (.iload_n 2, 1) := by decide +kernel
theorem dX5_crash_12 : decode cX5_crash 12 = .ok (.ifCond .ge 5, 3) := by decide +kernel
theorem dX5_crash_15 : decode cX5_crash 15 = .ok (.iconst (-1), 1) := by decide +kernel
theorem dX5_crash_16 : decode cX5_crash 16 = .ok (.ireturn, 1) := by decide +kernel
theorem dX5_crash_17 : decode cX5_crash 17 = .ok (.aload_n 0, 1) := by decide +kernel
theorem dX5_crash_18 : decode cX5_crash 18 = .ok (.dup, 1) := by decide +kernel
theorem dX5_crash_19 : decode cX5_crash 19 = .ok (.getfield 27, 3) := by decide +kernel
theorem dX5_crash_22 : decode cX5_crash 22 = .ok (.iconst 1, 1) := by decide +kernel
theorem dX5_crash_23 : decode cX5_crash 23 = .ok (.iload_n 1, 1) := by decide +kernel
theorem dX5_crash_24 : decode cX5_crash 24 = .ok (.ishl, 1) := by decide +kernel
theorem dX5_crash_25 : decode cX5_crash 25 = .ok (.iconst (-1), 1) := by decide +kernel
theorem dX5_crash_26 : decode cX5_crash 26 = .ok (.ixor, 1) := by decide +kernel
theorem dX5_crash_27 : decode cX5_crash 27 = .ok (.iand, 1) := by decide +kernel
theorem dX5_crash_28 : decode cX5_crash 28 = .ok (.putfield 27, 3) := by decide +kernel
theorem dX5_crash_31 : decode cX5_crash 31 = .ok (.iconst 0, 1) := by decide +kernel
theorem dX5_crash_32 : decode cX5_crash 32 = .ok (.istore_n 3, 1) := by decide +kernel
theorem dX5_crash_33 : decode cX5_crash 33 = .ok (.iconst 0, 1) := by decide +kernel
theorem dX5_crash_34 : decode cX5_crash 34 = .ok (.istore 4, 2) := by decide +kernel
theorem dX5_crash_36 : decode cX5_crash 36 = .ok (.iload 4, 2) := by decide +kernel
theorem dX5_crash_38 : decode cX5_crash 38 = .ok (.iconst 4, 1) := by decide +kernel
theorem dX5_crash_39 : decode cX5_crash 39 = .ok (.if_icmp .ge 47, 3) := by decide +kernel
theorem dX5_crash_42 : decode cX5_crash 42 = .ok (.aload_n 0, 1) := by decide +kernel
theorem dX5_crash_43 : decode cX5_crash 43 = .ok (.getfield 11, 3) := by decide +kernel
theorem dX5_crash_46 : decode cX5_crash 46 = .ok (.iload 4, 2) := by decide +kernel
theorem dX5_crash_48 : decode cX5_crash 48 = .ok (.aaload, 1) := by decide +kernel
theorem dX5_crash_49 : decode cX5_crash 49 = .ok (.astore 5, 2) := by decide +kernel
theorem dX5_crash_51 : decode cX5_crash 51 = .ok (.aload 5, 2) := by decide +kernel
theorem dX5_crash_53 : decode cX5_crash 53 = .ok (.ifnull 27, 3) := by decide +kernel
theorem dX5_crash_56 : decode cX5_crash 56 = .ok (.aload 5, 2) := by decide +kernel
theorem dX5_crash_58 : decode cX5_crash 58 = .ok (.iload_n 1, 1) := by decide +kernel
theorem dX5_crash_59 : decode cX5_crash 59 = .ok (.iload_n 2, 1) := by decide +kernel
theorem dX5_crash_60 : decode cX5_crash 60 = .ok (.invokevirtual 226, 3) := by decide +kernel
theorem dX5_crash_63 : decode cX5_crash 63 = .ok (.iload_n 3, 1) := by decide +kernel
theorem dX5_crash_64 : decode cX5_crash 64 = .ok (.aload 5, 2) := by decide +kernel
theorem dX5_crash_66 : decode cX5_crash 66 = .ok (.getfield 51, 3) := by decide +kernel
theorem dX5_crash_69 : decode cX5_crash 69 = .ok (.iconst (-1), 1) := by decide +kernel
theorem dX5_crash_70 : decode cX5_crash 70 = .ok (.if_icmp .ne 7, 3) := by decide +kernel
theorem dX5_crash_73 : decode cX5_crash 73 = .ok (.iconst 1, 1) := by decide +kernel
theorem dX5_crash_74 : decode cX5_crash 74 = .ok (.goto 4, 3) := by decide +kernel
theorem dX5_crash_77 : decode cX5_crash 77 = .ok (.iconst 0, 1) := by decide +kernel
theorem dX5_crash_78 : decode cX5_crash 78 = .ok (.iadd, 1) := by decide +kernel
theorem dX5_crash_79 : decode cX5_crash 79 = .ok (.istore_n 3, 1) := by decide +kernel
theorem dX5_crash_80 : decode cX5_crash 80 = .ok (.iinc 4 1, 3) := by decide +kernel
theorem dX5_crash_83 : decode cX5_crash 83 = .ok (.goto (-47), 3) := by decide +kernel
theorem dX5_crash_86 : decode cX5_crash 86 = .ok (.iload_n 3, 1) := by decide +kernel
theorem dX5_crash_87 : decode cX5_crash 87 = .ok (.ireturn, 1) := by decide +kernel
set_option maxRecDepth 20000 in
theorem ggX5_restart_X5_contains : GoodIn wsX5_restart wsX5_contains := goodIn_r _ [6] (by decide +kernel) (by decide +kernel)
set_option maxRecDepth 20000 in
theorem gX5_restart_X5_contains : GoodIn wsX5_restart (va_wsS RX5 138 yX5_contains wsX5_contains) := goodIn_app (goodIn_of _ (by decide +kernel)) ggX5_restart_X5_contains
set_option maxRecDepth 20000 in
theorem ggX5_restart_X5_replicaOf : GoodIn wsX5_restart wsX5_replicaOf := goodIn_r _ [10, 11, 12, 13, 5, 14, 15, 16, 17, 18, 19, 20, 21, 22, 23, 24, 25, 26, 27, 35, 36, 37, 38, 39, 40] (by decide +kernel) (by decide +kernel)
set_option maxRecDepth 20000 in
theorem gX5_restart_X5_replicaOf : GoodIn wsX5_restart (wsV RX5 219 RX5 yX5_replicaOf wsX5_replicaOf) := goodIn_app (goodIn_of _ (by decide +kernel)) ggX5_restart_X5_replicaOf
theorem dX5_restart_0 : decode cX5_restart 0 = .ok (.iload_n 1, 1) := by decide +kernel
theorem dX5_restart_1 : decode cX5_restart 1 = .ok (.ifCond .lt 19, 3) := by decide +kernel
theorem dX5_restart_4 : decode cX5_restart 4 = .ok (.iload_n 1, 1) := by decide +kernel
theorem dX5_restart_5 : decode cX5_restart 5 = .ok (.iconst 5, 1) := by decide +kernel
theorem dX5_restart_6 : decode cX5_restart 6 = .ok (.if_icmp .ge 14, 3) := by decide +kernel
theorem dX5_restart_9 : decode cX5_restart 9 = .ok (.aload_n 0, 1) := by decide +kernel
theorem dX5_restart_10 : decode cX5_restart 10 = .ok (.getfield 27, 3) := by decide +kernel
theorem dX5_restart_13 : decode cX5_restart 13 = .ok (.iload_n 1, 1) := by decide +kernel
theorem dX5_restart_14 : decode cX5_restart 14 = .ok (.invokestatic 138, 3) := by decide +kernel
theorem dX5_restart_17 : decode cX5_restart 17 = .ok (.ifCond .eq 5, 3) := by decide +kernel
theorem dX5_restart_20 : decode cX5_restart 20 = .ok (.iconst (-1), 1) := by decide +kernel
theorem dX5_restart_21 : decode cX5_restart 21 = .ok (.ireturn, 1) := by decide +kernel
theorem dX5_restart_22 : decode cX5_restart 22 = .ok (.aload_n 0, 1) := by decide +kernel
theorem dX5_restart_23 : decode cX5_restart 23 = .ok (.dup, 1) := by decide +kernel
theorem dX5_restart_24 : decode cX5_restart 24 = .ok (.getfield 27, 3) := by decide +kernel
theorem dX5_restart_27 : decode cX5_restart 27 = .ok (.iconst 1, 1) := by decide +kernel
theorem dX5_restart_28 : decode cX5_restart 28 = .ok (.iload_n 1, 1) := by decide +kernel
theorem dX5_restart_29 : decode cX5_restart 29 = .ok (.ishl, 1) := by decide +kernel
theorem dX5_restart_30 : decode cX5_restart 30 = .ok (.ior, 1) := by decide +kernel
theorem dX5_restart_31 : decode cX5_restart 31 = .ok (.putfield 27, 3) := by decide +kernel
theorem dX5_restart_34 : decode cX5_restart 34 = .ok (.iconst 0, 1) := by decide +kernel
theorem dX5_restart_35 : decode cX5_restart 35 = .ok (.istore_n 2, 1) := by decide +kernel
theorem dX5_restart_36 : decode cX5_restart 36 = .ok (.iload_n 2, 1) := by decide +kernel
theorem dX5_restart_37 : decode cX5_restart 37 = .ok (.iconst 4, 1) := by decide +kernel
theorem dX5_restart_38 : decode cX5_restart 38 = .ok (.if_icmp .ge 25, 3) := by decide +kernel
theorem dX5_restart_41 : decode cX5_restart 41 = .ok (.aload_n 0, 1) := by decide +kernel
theorem dX5_restart_42 : decode cX5_restart 42 = .ok (.iload_n 1, 1) := by decide +kernel
theorem dX5_restart_43 : decode cX5_restart 43 = .ok (.iload_n 2, 1) := by decide +kernel
theorem dX5_restart_44 : decode cX5_restart 44 = .ok (.invokevirtual 219, 3) := by decide +kernel
theorem dX5_restart_47 : decode cX5_restart 47 = .ok (.astore_n 3, 1) := by decide +kernel
theorem dX5_restart_48 : decode cX5_restart 48 = .ok (.aload_n 3, 1) := by decide +kernel
theorem dX5_restart_49 : decode cX5_restart 49 = .ok (.ifnull 8, 3) := by decide +kernel
theorem dX5_restart_52 : decode cX5_restart 52 = .ok (.aload_n 3, 1) := by decide +kernel
theorem dX5_restart_53 : decode cX5_restart 53 = .ok (.iconst (-1), 1) := by decide +kernel
theorem dX5_restart_54 : decode cX5_restart 54 = .ok (.putfield 157, 3) := by decide +kernel
theorem dX5_restart_57 : decode cX5_restart 57 = .ok (.iinc 2 1, 3) := by decide +kernel
theorem dX5_restart_60 : decode cX5_restart 60 = .ok (.goto (-24), 3) := by decide +kernel
theorem dX5_restart_63 : decode cX5_restart 63 = .ok (.iconst 0, 1) := by decide +kernel
theorem dX5_restart_64 : decode cX5_restart 64 = .ok (.ireturn, 1) := by decide +kernel
set_option maxRecDepth 20000 in
theorem ggX5_trim_X5_partitionAt : GoodIn wsX5_trim wsX5_partitionAt := goodIn_r _ [7, 8, 43, 44, 45, 46, 47, 48] (by decide +kernel) (by decide +kernel)
set_option maxRecDepth 20000 in
theorem gX5_trim_X5_partitionAt : GoodIn wsX5_trim (wsV RX5 54 RX5 yX5_partitionAt wsX5_partitionAt) := goodIn_app (goodIn_of _ (by decide +kernel)) ggX5_trim_X5_partitionAt
set_option maxRecDepth 20000 in
theorem ggX5_trim_X2_leading : GoodIn wsX5_trim wsX2_leading := goodIn_r _ [13, 14, 15, 16, 17, 12, 18, 19, 49, 50, 51, 52, 53, 54] (by decide +kernel) (by decide +kernel)
set_option maxRecDepth 20000 in
theorem gX5_trim_X2_leading : GoodIn wsX5_trim (wsV RX5 88 RX2 yX2_leading wsX2_leading) := goodIn_app (goodIn_of _ (by decide +kernel)) ggX5_trim_X2_leading
set_option maxRecDepth 20000 in
theorem ggX5_trim_X4_dropBefore : GoodIn wsX5_trim wsX4_dropBefore := goodIn_r _ [24, 25, 26, 27, 28, 29, 30, 36, 37, 38, 39, 40, 41, 42] (by decide +kernel) (by decide +kernel)
set_option maxRecDepth 20000 in
theorem gX5_trim_X4_dropBefore : GoodIn wsX5_trim (wsV RX5 229 RX4 yX4_dropBefore wsX4_dropBefore) := goodIn_app (goodIn_of _ (by decide +kernel)) ggX5_trim_X4_dropBefore
set_option maxRecDepth 20000 in
theorem ggX5_trim_X4_held : GoodIn wsX5_trim wsX4_held := goodIn_r _ [34, 35, 25, 36, 37, 38, 39, 40, 41, 42] (by decide +kernel) (by decide +kernel)
set_option maxRecDepth 20000 in
theorem gX5_trim_X4_held : GoodIn wsX5_trim (wsV RX5 232 RX4 yX4_held wsX4_held) := goodIn_app (goodIn_of _ (by decide +kernel)) ggX5_trim_X4_held
theorem dX5_trim_0 : decode cX5_trim 0 = .ok (.aload_n 0, 1) := by decide +kernel
theorem dX5_trim_1 : decode cX5_trim 1 = .ok (.iload_n 1, 1) := by decide +kernel
theorem dX5_trim_2 : decode cX5_trim 2 = .ok (.invokevirtual 54, 3) := by decide +kernel
theorem dX5_trim_5 : decode cX5_trim 5 = .ok (.astore_n 3, 1) := by decide +kernel
theorem dX5_trim_6 : decode cX5_trim 6 = .ok (.aload_n 3, 1) := by decide +kernel
theorem dX5_trim_7 : decode cX5_trim 7 = .ok (.ifnonnull 5, 3) := by decide +kernel
theorem dX5_trim_10 : decode cX5_trim 10 = .ok (.iconst (-1), 1) := by decide +kernel
theorem dX5_trim_11 : decode cX5_trim 11 = .ok (.ireturn, 1) := by decide +kernel
theorem dX5_trim_12 : decode cX5_trim 12 = .ok (.aload_n 3, 1) := by decide +kernel
theorem dX5_trim_13 : decode cX5_trim 13 = .ok (.invokevirtual 88, 3) := by decide +kernel
theorem dX5_trim_16 : decode cX5_trim 16 = .ok (.astore 4, 2) := by decide +kernel
theorem dX5_trim_18 : decode cX5_trim 18 = .ok (.aload 4, 2) := by decide +kernel
theorem dX5_trim_20 : decode cX5_trim 20 = .ok (.ifnonnull 6, 3) := by decide +kernel
theorem dX5_trim_23 : decode cX5_trim 23 = .ok (.bipush (-2), 2) := by decide +kernel
theorem dX5_trim_25 : decode cX5_trim 25 = .ok (.ireturn, 1) := by decide +kernel
theorem dX5_trim_26 : decode cX5_trim 26 = .ok (.iload_n 2, 1) := by decide +kernel
theorem dX5_trim_27 : decode cX5_trim 27 = .ok (.aload 4, 2) := by decide +kernel
theorem dX5_trim_29 : decode cX5_trim 29 = .ok (.getfield 167, 3) := by decide +kernel
theorem dX5_trim_32 : decode cX5_trim 32 = .ok (.if_icmp .lt 12, 3) := by decide +kernel
theorem dX5_trim_35 : decode cX5_trim 35 = .ok (.iload_n 2, 1) := by decide +kernel
theorem dX5_trim_36 : decode cX5_trim 36 = .ok (.aload 4, 2) := by decide +kernel
theorem dX5_trim_38 : decode cX5_trim 38 = .ok (.getfield 146, 3) := by decide +kernel
theorem dX5_trim_41 : decode cX5_trim 41 = .ok (.if_icmp .le 5, 3) := by decide +kernel
theorem dX5_trim_44 : decode cX5_trim 44 = .ok (.iconst (-1), 1) := by decide +kernel
theorem dX5_trim_45 : decode cX5_trim 45 = .ok (.ireturn, 1) := by decide +kernel
theorem dX5_trim_46 : decode cX5_trim 46 = .ok (.aload 4, 2) := by decide +kernel
theorem dX5_trim_48 : decode cX5_trim 48 = .ok (.iload_n 2, 1) := by decide +kernel
theorem dX5_trim_49 : decode cX5_trim 49 = .ok (.invokevirtual 229, 3) := by decide +kernel
theorem dX5_trim_52 : decode cX5_trim 52 = .ok (.aload 4, 2) := by decide +kernel
theorem dX5_trim_54 : decode cX5_trim 54 = .ok (.invokevirtual 232, 3) := by decide +kernel
theorem dX5_trim_57 : decode cX5_trim 57 = .ok (.ireturn, 1) := by decide +kernel
set_option maxRecDepth 20000 in
theorem ggX5_log_X5_partitionAt : GoodIn wsX5_log wsX5_partitionAt := goodIn_r _ [10, 11, 37, 38, 39, 40, 41, 42] (by decide +kernel) (by decide +kernel)
set_option maxRecDepth 20000 in
theorem gX5_log_X5_partitionAt : GoodIn wsX5_log (wsV RX5 54 RX5 yX5_partitionAt wsX5_partitionAt) := goodIn_app (goodIn_of _ (by decide +kernel)) ggX5_log_X5_partitionAt
set_option maxRecDepth 20000 in
theorem ggX5_log_X5_replicaOf : GoodIn wsX5_log wsX5_replicaOf := goodIn_r _ [15, 6, 7, 8, 9, 10, 11, 16, 17, 18, 19, 20, 21, 37, 38, 39, 40, 41, 42, 43, 44, 45, 46, 47, 48] (by decide +kernel) (by decide +kernel)
set_option maxRecDepth 20000 in
theorem gX5_log_X5_replicaOf : GoodIn wsX5_log (wsV RX5 219 RX5 yX5_replicaOf wsX5_replicaOf) := goodIn_app (goodIn_of _ (by decide +kernel)) ggX5_log_X5_replicaOf
set_option maxRecDepth 20000 in
theorem ggX5_log_X2_knownEnd : GoodIn wsX5_log wsX2_knownEnd := goodIn_r _ [25, 26, 27, 28, 29, 17, 18, 19, 20, 21, 43, 44, 45, 46, 47, 48, 30, 31, 32, 33, 34, 35, 36] (by decide +kernel) (by decide +kernel)
set_option maxRecDepth 20000 in
theorem gX5_log_X2_knownEnd : GoodIn wsX5_log (wsV RX5 236 RX2 yX2_knownEnd wsX2_knownEnd) := goodIn_app (goodIn_of _ (by decide +kernel)) ggX5_log_X2_knownEnd
theorem dX5_log_0 : decode cX5_log 0 = .ok (.aload_n 0, 1) := by decide +kernel
theorem dX5_log_1 : decode cX5_log 1 = .ok (.iload_n 2, 1) := by decide +kernel
theorem dX5_log_2 : decode cX5_log 2 = .ok (.invokevirtual 54, 3) := by decide +kernel
theorem dX5_log_5 : decode cX5_log 5 = .ok (.astore 4, 2) := by decide +kernel
theorem dX5_log_7 : decode cX5_log 7 = .ok (.aload_n 0, 1) := by decide +kernel
theorem dX5_log_8 : decode cX5_log 8 = .ok (.iload_n 1, 1) := by decide +kernel
theorem dX5_log_9 : decode cX5_log 9 = .ok (.iload_n 2, 1) := by decide +kernel
theorem dX5_log_10 : decode cX5_log 10 = .ok (.invokevirtual 219, 3) := by decide +kernel
theorem dX5_log_13 : decode cX5_log 13 = .ok (.astore 5, 2) := by decide +kernel
theorem dX5_log_15 : decode cX5_log 15 = .ok (.aload 4, 2) := by decide +kernel
theorem dX5_log_17 : decode cX5_log 17 = .ok (.ifnull 8, 3) := by decide +kernel
theorem dX5_log_20 : decode cX5_log 20 = .ok (.aload 5, 2) := by decide +kernel
theorem dX5_log_22 : decode cX5_log 22 = .ok (.ifnonnull 5, 3) := by decide +kernel
theorem dX5_log_25 : decode cX5_log 25 = .ok (.iconst (-1), 1) := by decide +kernel
theorem dX5_log_26 : decode cX5_log 26 = .ok (.ireturn, 1) := by decide +kernel
theorem dX5_log_27 : decode cX5_log 27 = .ok (.iload_n 3, 1) := by decide +kernel
theorem dX5_log_28 : decode cX5_log 28 = .ok (.tableswitch 77 0 5 #[40, 46, 52, 58, 64, 71], 40) := by decide +kernel
theorem dX5_log_68 : decode cX5_log 68 = .ok (.aload 5, 2) := by decide +kernel
theorem dX5_log_70 : decode cX5_log 70 = .ok (.getfield 167, 3) := by decide +kernel
theorem dX5_log_73 : decode cX5_log 73 = .ok (.ireturn, 1) := by decide +kernel
theorem dX5_log_74 : decode cX5_log 74 = .ok (.aload 5, 2) := by decide +kernel
theorem dX5_log_76 : decode cX5_log 76 = .ok (.getfield 132, 3) := by decide +kernel
theorem dX5_log_79 : decode cX5_log 79 = .ok (.ireturn, 1) := by decide +kernel
theorem dX5_log_80 : decode cX5_log 80 = .ok (.aload 5, 2) := by decide +kernel
theorem dX5_log_82 : decode cX5_log 82 = .ok (.getfield 146, 3) := by decide +kernel
theorem dX5_log_85 : decode cX5_log 85 = .ok (.ireturn, 1) := by decide +kernel
theorem dX5_log_86 : decode cX5_log 86 = .ok (.aload 5, 2) := by decide +kernel
theorem dX5_log_88 : decode cX5_log 88 = .ok (.getfield 223, 3) := by decide +kernel
theorem dX5_log_91 : decode cX5_log 91 = .ok (.ireturn, 1) := by decide +kernel
theorem dX5_log_92 : decode cX5_log 92 = .ok (.aload 4, 2) := by decide +kernel
theorem dX5_log_94 : decode cX5_log 94 = .ok (.iload_n 1, 1) := by decide +kernel
theorem dX5_log_95 : decode cX5_log 95 = .ok (.invokevirtual 236, 3) := by decide +kernel
theorem dX5_log_98 : decode cX5_log 98 = .ok (.ireturn, 1) := by decide +kernel
theorem dX5_log_99 : decode cX5_log 99 = .ok (.aload 5, 2) := by decide +kernel
theorem dX5_log_101 : decode cX5_log 101 = .ok (.getfield 160, 3) := by decide +kernel
theorem dX5_log_104 : decode cX5_log 104 = .ok (.ireturn, 1) := by decide +kernel
theorem dX5_log_105 : decode cX5_log 105 = .ok (.iconst (-1), 1) := by decide +kernel
theorem dX5_log_106 : decode cX5_log 106 = .ok (.ireturn, 1) := by decide +kernel
set_option maxRecDepth 20000 in
theorem ggX5_record_X5_replicaOf : GoodIn wsX5_record wsX5_replicaOf := goodIn_r _ [13, 14, 15, 16, 12, 17, 18, 19, 20, 21, 22, 23, 24, 45, 46, 47, 48, 49, 50, 51, 52, 53, 54, 55, 56] (by decide +kernel) (by decide +kernel)
set_option maxRecDepth 20000 in
theorem gX5_record_X5_replicaOf : GoodIn wsX5_record (wsV RX5 219 RX5 yX5_replicaOf wsX5_replicaOf) := goodIn_app (goodIn_of _ (by decide +kernel)) ggX5_record_X5_replicaOf
set_option maxRecDepth 20000 in
theorem ggX5_record_X4_entryAt : GoodIn wsX5_record wsX4_entryAt := goodIn_r _ [29, 30, 31, 32, 33, 34, 35, 36, 57, 58, 59, 60, 61, 62, 63] (by decide +kernel) (by decide +kernel)
set_option maxRecDepth 20000 in
theorem gX5_record_X4_entryAt : GoodIn wsX5_record (wsV RX5 174 RX4 yX4_entryAt wsX4_entryAt) := goodIn_app (goodIn_of _ (by decide +kernel)) ggX5_record_X4_entryAt
theorem dX5_record_0 : decode cX5_record 0 = .ok (.aload_n 0, 1) := by decide +kernel
theorem dX5_record_1 : decode cX5_record 1 = .ok (.iload_n 1, 1) := by decide +kernel
theorem dX5_record_2 : decode cX5_record 2 = .ok (.iload_n 2, 1) := by decide +kernel
theorem dX5_record_3 : decode cX5_record 3 = .ok (.invokevirtual 219, 3) := by decide +kernel
theorem dX5_record_6 : decode cX5_record 6 = .ok (.astore 5, 2) := by decide +kernel
theorem dX5_record_8 : decode cX5_record 8 = .ok (.aload 5, 2) := by decide +kernel
theorem dX5_record_10 : decode cX5_record 10 = .ok (.ifnonnull 7, 3) := by decide +kernel
theorem dX5_record_13 : decode cX5_record 13 = .ok (.aconst_null, 1) := by decide +kernel
theorem dX5_record_14 : decode cX5_record 14 = .ok (.goto 9, 3) := by decide +kernel
theorem dX5_record_17 : decode cX5_record 17 = .ok (.aload 5, 2) := by decide +kernel
theorem dX5_record_19 : decode cX5_record 19 = .ok (.iload_n 3, 1) := by decide +kernel
theorem dX5_record_20 : decode cX5_record 20 = .ok (.invokevirtual 174, 3) := by decide +kernel
theorem dX5_record_23 : decode cX5_record 23 = .ok (.astore 6, 2) := by decide +kernel
theorem dX5_record_25 : decode cX5_record 25 = .ok (.aload 6, 2) := by decide +kernel
theorem dX5_record_27 : decode cX5_record 27 = .ok (.ifnonnull 7, 3) := by decide +kernel
theorem dX5_record_30 : decode cX5_record 30 = .ok (.ldc2_w 239, 3) := by decide +kernel
theorem dX5_record_33 : decode cX5_record 33 = .ok (.lreturn, 1) := by decide +kernel
theorem dX5_record_34 : decode cX5_record 34 = .ok (.iload 4, 2) := by decide +kernel
theorem dX5_record_36 : decode cX5_record 36 = .ok (.tableswitch 100 0 6 #[44, 51, 58, 65, 72, 79, 86], 44) := by decide +kernel
theorem dX5_record_80 : decode cX5_record 80 = .ok (.aload 6, 2) := by decide +kernel
theorem dX5_record_82 : decode cX5_record 82 = .ok (.getfield 178, 3) := by decide +kernel
theorem dX5_record_85 : decode cX5_record 85 = .ok (.i2l, 1) := by decide +kernel
theorem dX5_record_86 : decode cX5_record 86 = .ok (.lreturn, 1) := by decide +kernel
theorem dX5_record_87 : decode cX5_record 87 = .ok (.aload 6, 2) := by decide +kernel
theorem dX5_record_89 : decode cX5_record 89 = .ok (.getfield 241, 3) := by decide +kernel
theorem dX5_record_92 : decode cX5_record 92 = .ok (.i2l, 1) := by decide +kernel
theorem dX5_record_93 : decode cX5_record 93 = .ok (.lreturn, 1) := by decide +kernel
theorem dX5_record_94 : decode cX5_record 94 = .ok (.aload 6, 2) := by decide +kernel
theorem dX5_record_96 : decode cX5_record 96 = .ok (.getfield 181, 3) := by decide +kernel
theorem dX5_record_99 : decode cX5_record 99 = .ok (.i2l, 1) := by decide +kernel
theorem dX5_record_100 : decode cX5_record 100 = .ok (.lreturn, 1) := by decide +kernel
theorem dX5_record_101 : decode cX5_record 101 = .ok (.aload 6, 2) := by decide +kernel
theorem dX5_record_103 : decode cX5_record 103 = .ok (.getfield 185, 3) := by decide +kernel
theorem dX5_record_106 : decode cX5_record 106 = .ok (.i2l, 1) := by decide +kernel
theorem dX5_record_107 : decode cX5_record 107 = .ok (.lreturn, 1) := by decide +kernel
theorem dX5_record_108 : decode cX5_record 108 = .ok (.aload 6, 2) := by decide +kernel
theorem dX5_record_110 : decode cX5_record 110 = .ok (.getfield 188, 3) := by decide +kernel
theorem dX5_record_113 : decode cX5_record 113 = .ok (.i2l, 1) := by decide +kernel
theorem dX5_record_114 : decode cX5_record 114 = .ok (.lreturn, 1) := by decide +kernel
theorem dX5_record_115 : decode cX5_record 115 = .ok (.aload 6, 2) := by decide +kernel
theorem dX5_record_117 : decode cX5_record 117 = .ok (.getfield 191, 3) := by decide +kernel
theorem dX5_record_120 : decode cX5_record 120 = .ok (.i2l, 1) := by decide +kernel
theorem dX5_record_121 : decode cX5_record 121 = .ok (.lreturn, 1) := by decide +kernel
theorem dX5_record_122 : decode cX5_record 122 = .ok (.aload 6, 2) := by decide +kernel
theorem dX5_record_124 : decode cX5_record 124 = .ok (.getfield 244, 3) := by decide +kernel
theorem dX5_record_127 : decode cX5_record 127 = .ok (.ifCond .eq 7, 3) := by decide +kernel
theorem dX5_record_130 : decode cX5_record 130 = .ok (.lconst 1, 1) := by decide +kernel
theorem dX5_record_131 : decode cX5_record 131 = .ok (.goto 4, 3) := by decide +kernel
theorem dX5_record_134 : decode cX5_record 134 = .ok (.lconst 0, 1) := by decide +kernel
theorem dX5_record_135 : decode cX5_record 135 = .ok (.lreturn, 1) := by decide +kernel
theorem dX5_record_136 : decode cX5_record 136 = .ok (.ldc2_w 239, 3) := by decide +kernel
theorem dX5_record_139 : decode cX5_record 139 = .ok (.lreturn, 1) := by decide +kernel
set_option maxRecDepth 20000 in
theorem ggX5_state_X5_partitionAt : GoodIn wsX5_state wsX5_partitionAt := goodIn_r _ [8, 9, 60, 61, 62, 63, 64, 65] (by decide +kernel) (by decide +kernel)
set_option maxRecDepth 20000 in
theorem gX5_state_X5_partitionAt : GoodIn wsX5_state (wsV RX5 54 RX5 yX5_partitionAt wsX5_partitionAt) := goodIn_app (goodIn_of _ (by decide +kernel)) ggX5_state_X5_partitionAt
set_option maxRecDepth 20000 in
theorem ggX5_state_X2_leading : GoodIn wsX5_state wsX2_leading := goodIn_r _ [14, 15, 16, 17, 18, 13, 19, 20, 54, 55, 56, 57, 58, 59] (by decide +kernel) (by decide +kernel)
set_option maxRecDepth 20000 in
theorem gX5_state_X2_leading : GoodIn wsX5_state (wsV RX5 88 RX2 yX2_leading wsX2_leading) := goodIn_app (goodIn_of _ (by decide +kernel)) ggX5_state_X2_leading
set_option maxRecDepth 20000 in
theorem ggX5_state_X5_firstOpenOf : GoodIn wsX5_state wsX5_firstOpenOf := goodIn_r _ [23, 24, 25, 26, 27, 28, 29, 30, 31, 32, 33, 34, 35, 36, 37, 38, 39, 40, 41, 42, 43, 44, 45, 46, 47, 48, 49, 50, 51, 52, 53, 66, 67, 68, 69, 70, 71, 72, 73, 74, 75, 76, 77, 78, 79, 80] (by decide +kernel) (by decide +kernel)
set_option maxRecDepth 20000 in
theorem gX5_state_X5_firstOpenOf : GoodIn wsX5_state (va_wsS RX5 248 yX5_firstOpenOf wsX5_firstOpenOf) := goodIn_app (goodIn_of _ (by decide +kernel)) ggX5_state_X5_firstOpenOf
theorem dX5_state_0 : decode cX5_state 0 = .ok (.aload_n 0, 1) := by decide +kernel
theorem dX5_state_1 : decode cX5_state 1 = .ok (.iload_n 1, 1) := by decide +kernel
theorem dX5_state_2 : decode cX5_state 2 = .ok (.invokevirtual 54, 3) := by decide +kernel
theorem dX5_state_5 : decode cX5_state 5 = .ok (.astore_n 3, 1) := by decide +kernel
theorem dX5_state_6 : decode cX5_state 6 = .ok (.aload_n 3, 1) := by decide +kernel
theorem dX5_state_7 : decode cX5_state 7 = .ok (.ifnonnull 5, 3) := by decide +kernel
theorem dX5_state_10 : decode cX5_state 10 = .ok (.iconst (-1), 1) := by decide +kernel
theorem dX5_state_11 : decode cX5_state 11 = .ok (.ireturn, 1) := by decide +kernel
theorem dX5_state_12 : decode cX5_state 12 = .ok (.iload_n 2, 1) := by decide +kernel
theorem dX5_state_13 : decode cX5_state 13 = .ok (.tableswitch 54 0 3 #[31, 36, 41, 46], 31) := by decide +kernel
theorem dX5_state_44 : decode cX5_state 44 = .ok (.aload_n 3, 1) := by decide +kernel
theorem dX5_state_45 : decode cX5_state 45 = .ok (.getfield 51, 3) := by decide +kernel
theorem dX5_state_48 : decode cX5_state 48 = .ok (.ireturn, 1) := by decide +kernel
theorem dX5_state_49 : decode cX5_state 49 = .ok (.aload_n 3, 1) := by decide +kernel
theorem dX5_state_50 : decode cX5_state 50 = .ok (.getfield 115, 3) := by decide +kernel
theorem dX5_state_53 : decode cX5_state 53 = .ok (.ireturn, 1) := by decide +kernel
theorem dX5_state_54 : decode cX5_state 54 = .ok (.aload_n 3, 1) := by decide +kernel
theorem dX5_state_55 : decode cX5_state 55 = .ok (.getfield 58, 3) := by decide +kernel
theorem dX5_state_58 : decode cX5_state 58 = .ok (.ireturn, 1) := by decide +kernel
theorem dX5_state_59 : decode cX5_state 59 = .ok (.aload_n 3, 1) := by decide +kernel
theorem dX5_state_60 : decode cX5_state 60 = .ok (.invokevirtual 88, 3) := by decide +kernel
theorem dX5_state_63 : decode cX5_state 63 = .ok (.invokestatic 248, 3) := by decide +kernel
theorem dX5_state_66 : decode cX5_state 66 = .ok (.ireturn, 1) := by decide +kernel
theorem dX5_state_67 : decode cX5_state 67 = .ok (.iconst (-1), 1) := by decide +kernel
theorem dX5_state_68 : decode cX5_state 68 = .ok (.ireturn, 1) := by decide +kernel
set_option maxRecDepth 20000 in
theorem ggX5_count_X5_producerAt : GoodIn wsX5_count wsX5_producerAt := goodIn_r _ [8, 9, 10, 11, 12, 13, 14, 15] (by decide +kernel) (by decide +kernel)
set_option maxRecDepth 20000 in
theorem gX5_count_X5_producerAt : GoodIn wsX5_count (wsV RX5 71 RX5 yX5_producerAt wsX5_producerAt) := goodIn_app (goodIn_of _ (by decide +kernel)) ggX5_count_X5_producerAt
theorem dX5_count_0 : decode cX5_count 0 = .ok (.iload_n 1, 1) := by decide +kernel
theorem dX5_count_1 : decode cX5_count 1 = .ok (.ifCond .ne 8, 3) := by decide +kernel
theorem dX5_count_4 : decode cX5_count 4 = .ok (.aload_n 0, 1) := by decide +kernel
theorem dX5_count_5 : decode cX5_count 5 = .ok (.getfield 31, 3) := by decide +kernel
theorem dX5_count_8 : decode cX5_count 8 = .ok (.ireturn, 1) := by decide +kernel
theorem dX5_count_9 : decode cX5_count 9 = .ok (.iload_n 1, 1) := by decide +kernel
theorem dX5_count_10 : decode cX5_count 10 = .ok (.iconst 1, 1) := by decide +kernel
theorem dX5_count_11 : decode cX5_count 11 = .ok (.if_icmp .ne 8, 3) := by decide +kernel
theorem dX5_count_14 : decode cX5_count 14 = .ok (.aload_n 0, 1) := by decide +kernel
theorem dX5_count_15 : decode cX5_count 15 = .ok (.getfield 27, 3) := by decide +kernel
theorem dX5_count_18 : decode cX5_count 18 = .ok (.ireturn, 1) := by decide +kernel
theorem dX5_count_19 : decode cX5_count 19 = .ok (.iload_n 1, 1) := by decide +kernel
theorem dX5_count_20 : decode cX5_count 20 = .ok (.iconst 2, 1) := by decide +kernel
theorem dX5_count_21 : decode cX5_count 21 = .ok (.if_icmp .lt 9, 3) := by decide +kernel
theorem dX5_count_24 : decode cX5_count 24 = .ok (.iload_n 1, 1) := by decide +kernel
theorem dX5_count_25 : decode cX5_count 25 = .ok (.bipush 8, 2) := by decide +kernel
theorem dX5_count_27 : decode cX5_count 27 = .ok (.if_icmp .lt 5, 3) := by decide +kernel
theorem dX5_count_30 : decode cX5_count 30 = .ok (.iconst (-1), 1) := by decide +kernel
theorem dX5_count_31 : decode cX5_count 31 = .ok (.ireturn, 1) := by decide +kernel
theorem dX5_count_32 : decode cX5_count 32 = .ok (.aload_n 0, 1) := by decide +kernel
theorem dX5_count_33 : decode cX5_count 33 = .ok (.iload_n 1, 1) := by decide +kernel
theorem dX5_count_34 : decode cX5_count 34 = .ok (.iconst 2, 1) := by decide +kernel
theorem dX5_count_35 : decode cX5_count 35 = .ok (.isub, 1) := by decide +kernel
theorem dX5_count_36 : decode cX5_count 36 = .ok (.invokevirtual 71, 3) := by decide +kernel
theorem dX5_count_39 : decode cX5_count 39 = .ok (.astore_n 2, 1) := by decide +kernel
theorem dX5_count_40 : decode cX5_count 40 = .ok (.aload_n 2, 1) := by decide +kernel
theorem dX5_count_41 : decode cX5_count 41 = .ok (.ifnonnull 7, 3) := by decide +kernel
theorem dX5_count_44 : decode cX5_count 44 = .ok (.iconst (-1), 1) := by decide +kernel
theorem dX5_count_45 : decode cX5_count 45 = .ok (.goto 7, 3) := by decide +kernel
theorem dX5_count_48 : decode cX5_count 48 = .ok (.aload_n 2, 1) := by decide +kernel
theorem dX5_count_49 : decode cX5_count 49 = .ok (.getfield 78, 3) := by decide +kernel
theorem dX5_count_52 : decode cX5_count 52 = .ok (.ireturn, 1) := by decide +kernel
theorem dX5_partitionAt_0 : decode cX5_partitionAt 0 = .ok (.iload_n 1, 1) := by decide +kernel
theorem dX5_partitionAt_1 : decode cX5_partitionAt 1 = .ok (.ifCond .lt 8, 3) := by decide +kernel
theorem dX5_partitionAt_4 : decode cX5_partitionAt 4 = .ok (.iload_n 1, 1) := by decide +kernel
theorem dX5_partitionAt_5 : decode cX5_partitionAt 5 = .ok (.iconst 4, 1) := by decide +kernel
theorem dX5_partitionAt_6 : decode cX5_partitionAt 6 = .ok (.if_icmp .lt 7, 3) := by decide +kernel
theorem dX5_partitionAt_9 : decode cX5_partitionAt 9 = .ok (.aconst_null, 1) := by decide +kernel
theorem dX5_partitionAt_10 : decode cX5_partitionAt 10 = .ok (.goto 9, 3) := by decide +kernel
theorem dX5_partitionAt_13 : decode cX5_partitionAt 13 = .ok (.aload_n 0, 1) := by decide +kernel
theorem dX5_partitionAt_14 : decode cX5_partitionAt 14 = .ok (.getfield 11, 3) := by decide +kernel
theorem dX5_partitionAt_17 : decode cX5_partitionAt 17 = .ok (.iload_n 1, 1) := by decide +kernel
theorem dX5_partitionAt_18 : decode cX5_partitionAt 18 = .ok (.aaload, 1) := by decide +kernel
theorem dX5_partitionAt_19 : decode cX5_partitionAt 19 = .ok (.areturn, 1) := by decide +kernel
set_option maxRecDepth 20000 in
theorem ggX5_replicaOf_X5_partitionAt : GoodIn wsX5_replicaOf wsX5_partitionAt := goodIn_r _ [5, 6, 13, 14, 15, 16, 17, 18] (by decide +kernel) (by decide +kernel)
set_option maxRecDepth 20000 in
theorem gX5_replicaOf_X5_partitionAt : GoodIn wsX5_replicaOf (wsV RX5 54 RX5 yX5_partitionAt wsX5_partitionAt) := goodIn_app (goodIn_of _ (by decide +kernel)) ggX5_replicaOf_X5_partitionAt
set_option maxRecDepth 20000 in
theorem ggX5_replicaOf_X2_replicaAt : GoodIn wsX5_replicaOf wsX2_replicaAt := goodIn_r _ [11, 12, 19, 20, 21, 22, 23, 24] (by decide +kernel) (by decide +kernel)
set_option maxRecDepth 20000 in
theorem gX5_replicaOf_X2_replicaAt : GoodIn wsX5_replicaOf (wsV RX5 149 RX2 yX2_replicaAt wsX2_replicaAt) := goodIn_app (goodIn_of _ (by decide +kernel)) ggX5_replicaOf_X2_replicaAt
theorem dX5_replicaOf_0 : decode cX5_replicaOf 0 = .ok (.aload_n 0, 1) := by decide +kernel
theorem dX5_replicaOf_1 : decode cX5_replicaOf 1 = .ok (.iload_n 2, 1) := by decide +kernel
theorem dX5_replicaOf_2 : decode cX5_replicaOf 2 = .ok (.invokevirtual 54, 3) := by decide +kernel
theorem dX5_replicaOf_5 : decode cX5_replicaOf 5 = .ok (.astore_n 3, 1) := by decide +kernel
theorem dX5_replicaOf_6 : decode cX5_replicaOf 6 = .ok (.aload_n 3, 1) := by decide +kernel
theorem dX5_replicaOf_7 : decode cX5_replicaOf 7 = .ok (.ifnonnull 7, 3) := by decide +kernel
theorem dX5_replicaOf_10 : decode cX5_replicaOf 10 = .ok (.aconst_null, 1) := by decide +kernel
theorem dX5_replicaOf_11 : decode cX5_replicaOf 11 = .ok (.goto 8, 3) := by decide +kernel
theorem dX5_replicaOf_14 : decode cX5_replicaOf 14 = .ok (.aload_n 3, 1) := by decide +kernel
theorem dX5_replicaOf_15 : decode cX5_replicaOf 15 = .ok (.iload_n 1, 1) := by decide +kernel
theorem dX5_replicaOf_16 : decode cX5_replicaOf 16 = .ok (.invokevirtual 149, 3) := by decide +kernel
theorem dX5_replicaOf_19 : decode cX5_replicaOf 19 = .ok (.areturn, 1) := by decide +kernel
theorem dX5_producerAt_0 : decode cX5_producerAt 0 = .ok (.iload_n 1, 1) := by decide +kernel
theorem dX5_producerAt_1 : decode cX5_producerAt 1 = .ok (.ifCond .lt 9, 3) := by decide +kernel
theorem dX5_producerAt_4 : decode cX5_producerAt 4 = .ok (.iload_n 1, 1) := by decide +kernel
theorem dX5_producerAt_5 : decode cX5_producerAt 5 = .ok (.bipush 6, 2) := by decide +kernel
theorem dX5_producerAt_7 : decode cX5_producerAt 7 = .ok (.if_icmp .lt 7, 3) := by decide +kernel
theorem dX5_producerAt_10 : decode cX5_producerAt 10 = .ok (.aconst_null, 1) := by decide +kernel
theorem dX5_producerAt_11 : decode cX5_producerAt 11 = .ok (.goto 9, 3) := by decide +kernel
theorem dX5_producerAt_14 : decode cX5_producerAt 14 = .ok (.aload_n 0, 1) := by decide +kernel
theorem dX5_producerAt_15 : decode cX5_producerAt 15 = .ok (.getfield 17, 3) := by decide +kernel
theorem dX5_producerAt_18 : decode cX5_producerAt 18 = .ok (.iload_n 1, 1) := by decide +kernel
theorem dX5_producerAt_19 : decode cX5_producerAt 19 = .ok (.aaload, 1) := by decide +kernel
theorem dX5_producerAt_20 : decode cX5_producerAt 20 = .ok (.areturn, 1) := by decide +kernel
set_option maxRecDepth 20000 in
theorem ggX5_producerOf_X5_producerAt : GoodIn wsX5_producerOf wsX5_producerAt := goodIn_r _ [5, 6, 7, 8, 9, 10, 11, 12] (by decide +kernel) (by decide +kernel)
set_option maxRecDepth 20000 in
theorem gX5_producerOf_X5_producerAt : GoodIn wsX5_producerOf (wsV RX5 71 RX5 yX5_producerAt wsX5_producerAt) := goodIn_app (goodIn_of _ (by decide +kernel)) ggX5_producerOf_X5_producerAt
theorem dX5_producerOf_0 : decode cX5_producerOf 0 = .ok (.iload_n 1, 1) := by decide +kernel
theorem dX5_producerOf_1 : decode cX5_producerOf 1 = .ok (.ifCond .ge 7, 3) := by decide +kernel
theorem dX5_producerOf_4 : decode cX5_producerOf 4 = .ok (.aconst_null, 1) := by decide +kernel
theorem dX5_producerOf_5 : decode cX5_producerOf 5 = .ok (.goto 11, 3) := by decide +kernel
theorem dX5_producerOf_8 : decode cX5_producerOf 8 = .ok (.aload_n 0, 1) := by decide +kernel
theorem dX5_producerOf_9 : decode cX5_producerOf 9 = .ok (.iload_n 1, 1) := by decide +kernel
theorem dX5_producerOf_10 : decode cX5_producerOf 10 = .ok (.bipush 8, 2) := by decide +kernel
theorem dX5_producerOf_12 : decode cX5_producerOf 12 = .ok (.irem, 1) := by decide +kernel
theorem dX5_producerOf_13 : decode cX5_producerOf 13 = .ok (.invokevirtual 71, 3) := by decide +kernel
theorem dX5_producerOf_16 : decode cX5_producerOf 16 = .ok (.areturn, 1) := by decide +kernel
theorem dX5_generationOf_0 : decode cX5_generationOf 0 = .ok (.iload_n 0, 1) := by decide +kernel
theorem dX5_generationOf_1 : decode cX5_generationOf 1 = .ok (.bipush 8, 2) := by decide +kernel
theorem dX5_generationOf_3 : decode cX5_generationOf 3 = .ok (.idiv, 1) := by decide +kernel
theorem dX5_generationOf_4 : decode cX5_generationOf 4 = .ok (.ireturn, 1) := by decide +kernel
theorem dX5_groupAt_0 : decode cX5_groupAt 0 = .ok (.iload_n 1, 1) := by decide +kernel
theorem dX5_groupAt_1 : decode cX5_groupAt 1 = .ok (.ifCond .lt 8, 3) := by decide +kernel
theorem dX5_groupAt_4 : decode cX5_groupAt 4 = .ok (.iload_n 1, 1) := by decide +kernel
theorem dX5_groupAt_5 : decode cX5_groupAt 5 = .ok (.iconst 4, 1) := by decide +kernel
theorem dX5_groupAt_6 : decode cX5_groupAt 6 = .ok (.if_icmp .lt 7, 3) := by decide +kernel
theorem dX5_groupAt_9 : decode cX5_groupAt 9 = .ok (.aconst_null, 1) := by decide +kernel
theorem dX5_groupAt_10 : decode cX5_groupAt 10 = .ok (.goto 9, 3) := by decide +kernel
theorem dX5_groupAt_13 : decode cX5_groupAt 13 = .ok (.aload_n 0, 1) := by decide +kernel
theorem dX5_groupAt_14 : decode cX5_groupAt 14 = .ok (.getfield 23, 3) := by decide +kernel
theorem dX5_groupAt_17 : decode cX5_groupAt 17 = .ok (.iload_n 1, 1) := by decide +kernel
theorem dX5_groupAt_18 : decode cX5_groupAt 18 = .ok (.aaload, 1) := by decide +kernel
theorem dX5_groupAt_19 : decode cX5_groupAt 19 = .ok (.areturn, 1) := by decide +kernel
theorem dX5_placeOf_0 : decode cX5_placeOf 0 = .ok (.iconst 0, 1) := by decide +kernel
theorem dX5_placeOf_1 : decode cX5_placeOf 1 = .ok (.istore_n 2, 1) := by decide +kernel
theorem dX5_placeOf_2 : decode cX5_placeOf 2 = .ok (.iconst 0, 1) := by decide +kernel
theorem dX5_placeOf_3 : decode cX5_placeOf 3 = .ok (.istore_n 3, 1) := by decide +kernel
theorem dX5_placeOf_4 : decode cX5_placeOf 4 = .ok (.iload_n 3, 1) := by decide +kernel
theorem dX5_placeOf_5 : decode cX5_placeOf 5 = .ok (.iconst 4, 1) := by decide +kernel
theorem dX5_placeOf_6 : decode cX5_placeOf 6 = .ok (.if_icmp .ge 31, 3) := by decide +kernel
theorem dX5_placeOf_9 : decode cX5_placeOf 9 = .ok (.iload_n 3, 1) := by decide +kernel
theorem dX5_placeOf_10 : decode cX5_placeOf 10 = .ok (.iload_n 1, 1) := by decide +kernel
theorem dX5_placeOf_11 : decode cX5_placeOf 11 = .ok (.if_icmp .ge 26, 3) := by decide +kernel
theorem dX5_placeOf_14 : decode cX5_placeOf 14 = .ok (.iload_n 2, 1) := by decide +kernel
theorem dX5_placeOf_15 : decode cX5_placeOf 15 = .ok (.aload_n 0, 1) := by decide +kernel
theorem dX5_placeOf_16 : decode cX5_placeOf 16 = .ok (.getfield 11, 3) := by decide +kernel
theorem dX5_placeOf_19 : decode cX5_placeOf 19 = .ok (.iload_n 3, 1) := by decide +kernel
theorem dX5_placeOf_20 : decode cX5_placeOf 20 = .ok (.aaload, 1) := by decide +kernel
theorem dX5_placeOf_21 : decode cX5_placeOf 21 = .ok (.ifnonnull 7, 3) := by decide +kernel
theorem dX5_placeOf_24 : decode cX5_placeOf 24 = .ok (.iconst 0, 1) := by decide +kernel
theorem dX5_placeOf_25 : decode cX5_placeOf 25 = .ok (.goto 4, 3) := by decide +kernel
theorem dX5_placeOf_28 : decode cX5_placeOf 28 = .ok (.iconst 1, 1) := by decide +kernel
theorem dX5_placeOf_29 : decode cX5_placeOf 29 = .ok (.iadd, 1) := by decide +kernel
theorem dX5_placeOf_30 : decode cX5_placeOf 30 = .ok (.istore_n 2, 1) := by decide +kernel
theorem dX5_placeOf_31 : decode cX5_placeOf 31 = .ok (.iinc 3 1, 3) := by decide +kernel
theorem dX5_placeOf_34 : decode cX5_placeOf 34 = .ok (.goto (-30), 3) := by decide +kernel
theorem dX5_placeOf_37 : decode cX5_placeOf 37 = .ok (.iload_n 2, 1) := by decide +kernel
theorem dX5_placeOf_38 : decode cX5_placeOf 38 = .ok (.ireturn, 1) := by decide +kernel
set_option maxRecDepth 20000 in
theorem ggX5_newData_X0_init : GoodIn wsX5_newData wsX0_init := goodIn_r _ [9, 10, 11, 12, 13, 14, 15, 16, 17, 18, 19, 20, 21, 22, 23, 24, 25, 26, 27, 28] (by decide +kernel) (by decide +kernel)
set_option maxRecDepth 20000 in
theorem gX5_newData_X0_init : GoodIn wsX5_newData (wsX0_init) := ggX5_newData_X0_init
theorem dX5_newData_0 : decode cX5_newData 0 = .ok (.aload_n 1, 1) := by decide +kernel
theorem dX5_newData_1 : decode cX5_newData 1 = .ok (.ifnonnull 19, 3) := by decide +kernel
theorem dX5_newData_4 : decode cX5_newData 4 = .ok (.new 179, 3) := by decide +kernel
theorem dX5_newData_7 : decode cX5_newData 7 = .ok (.dup, 1) := by decide +kernel
theorem dX5_newData_8 : decode cX5_newData 8 = .ok (.iload_n 0, 1) := by decide +kernel
theorem dX5_newData_9 : decode cX5_newData 9 = .ok (.iconst (-1), 1) := by decide +kernel
theorem dX5_newData_10 : decode cX5_newData 10 = .ok (.iconst (-1), 1) := by decide +kernel
theorem dX5_newData_11 : decode cX5_newData 11 = .ok (.iconst (-1), 1) := by decide +kernel
theorem dX5_newData_12 : decode cX5_newData 12 = .ok (.iload_n 3, 1) := by decide +kernel
theorem dX5_newData_13 : decode cX5_newData 13 = .ok (.iload 4, 2) := by decide +kernel
theorem dX5_newData_15 : decode cX5_newData 15 = .ok (.iconst 0, 1) := by decide +kernel
theorem dX5_newData_16 : decode cX5_newData 16 = .ok (.invokespecial 251, 3) := by decide +kernel
theorem dX5_newData_19 : decode cX5_newData 19 = .ok (.areturn, 1) := by decide +kernel
theorem dX5_newData_20 : decode cX5_newData 20 = .ok (.new 179, 3) := by decide +kernel
theorem dX5_newData_23 : decode cX5_newData 23 = .ok (.dup, 1) := by decide +kernel
theorem dX5_newData_24 : decode cX5_newData 24 = .ok (.iload_n 0, 1) := by decide +kernel
theorem dX5_newData_25 : decode cX5_newData 25 = .ok (.aload_n 1, 1) := by decide +kernel
theorem dX5_newData_26 : decode cX5_newData 26 = .ok (.getfield 98, 3) := by decide +kernel
theorem dX5_newData_29 : decode cX5_newData 29 = .ok (.aload_n 1, 1) := by decide +kernel
theorem dX5_newData_30 : decode cX5_newData 30 = .ok (.getfield 75, 3) := by decide +kernel
theorem dX5_newData_33 : decode cX5_newData 33 = .ok (.iload_n 2, 1) := by decide +kernel
theorem dX5_newData_34 : decode cX5_newData 34 = .ok (.iload_n 3, 1) := by decide +kernel
theorem dX5_newData_35 : decode cX5_newData 35 = .ok (.iload 4, 2) := by decide +kernel
theorem dX5_newData_37 : decode cX5_newData 37 = .ok (.aload_n 1, 1) := by decide +kernel
theorem dX5_newData_38 : decode cX5_newData 38 = .ok (.getfield 78, 3) := by decide +kernel
theorem dX5_newData_41 : decode cX5_newData 41 = .ok (.iconst 1, 1) := by decide +kernel
theorem dX5_newData_42 : decode cX5_newData 42 = .ok (.if_icmp .ne 7, 3) := by decide +kernel
theorem dX5_newData_45 : decode cX5_newData 45 = .ok (.iconst 1, 1) := by decide +kernel
theorem dX5_newData_46 : decode cX5_newData 46 = .ok (.goto 4, 3) := by decide +kernel
theorem dX5_newData_49 : decode cX5_newData 49 = .ok (.iconst 0, 1) := by decide +kernel
theorem dX5_newData_50 : decode cX5_newData 50 = .ok (.invokespecial 251, 3) := by decide +kernel
theorem dX5_newData_53 : decode cX5_newData 53 = .ok (.areturn, 1) := by decide +kernel
set_option maxRecDepth 20000 in
theorem ggX5_markEnd_X2_leading : GoodIn wsX5_markEnd wsX2_leading := goodIn_r _ [12, 13, 14, 15, 16, 11, 17, 18, 84, 85, 86, 87, 88, 89] (by decide +kernel) (by decide +kernel)
set_option maxRecDepth 20000 in
theorem gX5_markEnd_X2_leading : GoodIn wsX5_markEnd (wsV RX5 88 RX2 yX2_leading wsX2_leading) := goodIn_app (goodIn_of _ (by decide +kernel)) ggX5_markEnd_X2_leading
set_option maxRecDepth 20000 in
theorem ggX5_markEnd_X4_isFull : GoodIn wsX5_markEnd wsX4_isFull := goodIn_r _ [23, 24, 25, 26, 22, 27, 28, 29, 96, 97, 98, 99, 100, 101, 102] (by decide +kernel) (by decide +kernel)
set_option maxRecDepth 20000 in
theorem gX5_markEnd_X4_isFull : GoodIn wsX5_markEnd (wsV RX5 111 RX4 yX4_isFull wsX4_isFull) := goodIn_app (goodIn_of _ (by decide +kernel)) ggX5_markEnd_X4_isFull
set_option maxRecDepth 20000 in
theorem ggX5_markEnd_X0_init_ : GoodIn wsX5_markEnd wsX0_init_ := goodIn_r _ [32, 33, 34, 35, 36, 37, 38, 39, 40, 41, 42, 43, 76, 77, 78, 79, 80, 81, 82, 83] (by decide +kernel) (by decide +kernel)
set_option maxRecDepth 20000 in
theorem gX5_markEnd_X0_init_ : GoodIn wsX5_markEnd (wsX0_init_) := ggX5_markEnd_X0_init_
set_option maxRecDepth 20000 in
theorem ggX5_markEnd_X4_append : GoodIn wsX5_markEnd wsX4_append := goodIn_r _ [47, 48, 28, 49, 50, 51, 52, 96, 97, 98, 99, 100, 101, 102] (by decide +kernel) (by decide +kernel)
set_option maxRecDepth 20000 in
theorem gX5_markEnd_X4_append : GoodIn wsX5_markEnd (wsV RX5 122 RX4 yX4_append wsX4_append) := goodIn_app (goodIn_of _ (by decide +kernel)) ggX5_markEnd_X4_append
set_option maxRecDepth 20000 in
theorem ggX5_markEnd_X2_raiseHw : GoodIn wsX5_markEnd wsX2_raiseHw := goodIn_r _ [56, 57, 58, 59, 60, 61, 62, 63, 64, 65, 66, 67, 9, 10, 11, 12, 13, 14, 15, 16, 17, 18, 68, 69, 70, 71, 72, 73, 74, 75, 96, 97, 98, 99, 100, 101, 102, 84, 85, 86, 87, 88, 89] (by decide +kernel) (by decide +kernel)
set_option maxRecDepth 20000 in
theorem gX5_markEnd_X2_raiseHw : GoodIn wsX5_markEnd (wsV RX5 129 RX2 yX2_raiseHw wsX2_raiseHw) := goodIn_app (goodIn_of _ (by decide +kernel)) ggX5_markEnd_X2_raiseHw
theorem dX5_markEnd_0 : decode cX5_markEnd 0 = .ok (.aload_n 0, 1) := by decide +kernel
theorem dX5_markEnd_1 : decode cX5_markEnd 1 = .ok (.ifnonnull 5, 3) := by decide +kernel
theorem dX5_markEnd_4 : decode cX5_markEnd 4 = .ok (.iconst 0, 1) := by decide +kernel
theorem dX5_markEnd_5 : decode cX5_markEnd 5 = .ok (.ireturn, 1) := by decide +kernel
theorem dX5_markEnd_6 : decode cX5_markEnd 6 = .ok (.aload_n 0, 1) := by decide +kernel
theorem dX5_markEnd_7 : decode cX5_markEnd 7 = .ok (.invokevirtual 88, 3) := by decide +kernel
theorem dX5_markEnd_10 : decode cX5_markEnd 10 = .ok (.astore_n 2, 1) := by decide +kernel
theorem dX5_markEnd_11 : decode cX5_markEnd 11 = .ok (.aload_n 2, 1) := by decide +kernel
theorem dX5_markEnd_12 : decode cX5_markEnd 12 = .ok (.ifnull 10, 3) := by decide +kernel
theorem dX5_markEnd_15 : decode cX5_markEnd 15 = .ok (.aload_n 2, 1) := by decide +kernel
theorem dX5_markEnd_16 : decode cX5_markEnd 16 = .ok (.invokevirtual 111, 3) := by decide +kernel
theorem dX5_markEnd_19 : decode cX5_markEnd 19 = .ok (.ifCond .eq 5, 3) := by decide +kernel
theorem dX5_markEnd_22 : decode cX5_markEnd 22 = .ok (.iconst 0, 1) := by decide +kernel
theorem dX5_markEnd_23 : decode cX5_markEnd 23 = .ok (.ireturn, 1) := by decide +kernel
theorem dX5_markEnd_24 : decode cX5_markEnd 24 = .ok (.aload_n 2, 1) := by decide +kernel
theorem dX5_markEnd_25 : decode cX5_markEnd 25 = .ok (.new 179, 3) := by decide +kernel
theorem dX5_markEnd_28 : decode cX5_markEnd 28 = .ok (.dup, 1) := by decide +kernel
theorem dX5_markEnd_29 : decode cX5_markEnd 29 = .ok (.aload_n 0, 1) := by decide +kernel
theorem dX5_markEnd_30 : decode cX5_markEnd 30 = .ok (.getfield 115, 3) := by decide +kernel
theorem dX5_markEnd_33 : decode cX5_markEnd 33 = .ok (.aload_n 1, 1) := by decide +kernel
theorem dX5_markEnd_34 : decode cX5_markEnd 34 = .ok (.getfield 254, 3) := by decide +kernel
theorem dX5_markEnd_37 : decode cX5_markEnd 37 = .ok (.ifCond .eq 7, 3) := by decide +kernel
theorem dX5_markEnd_40 : decode cX5_markEnd 40 = .ok (.iconst 1, 1) := by decide +kernel
theorem dX5_markEnd_41 : decode cX5_markEnd 41 = .ok (.goto 4, 3) := by decide +kernel
theorem dX5_markEnd_44 : decode cX5_markEnd 44 = .ok (.iconst 2, 1) := by decide +kernel
theorem dX5_markEnd_45 : decode cX5_markEnd 45 = .ok (.aload_n 1, 1) := by decide +kernel
theorem dX5_markEnd_46 : decode cX5_markEnd 46 = .ok (.getfield 98, 3) := by decide +kernel
theorem dX5_markEnd_49 : decode cX5_markEnd 49 = .ok (.aload_n 1, 1) := by decide +kernel
theorem dX5_markEnd_50 : decode cX5_markEnd 50 = .ok (.getfield 257, 3) := by decide +kernel
theorem dX5_markEnd_53 : decode cX5_markEnd 53 = .ok (.invokespecial 260, 3) := by decide +kernel
theorem dX5_markEnd_56 : decode cX5_markEnd 56 = .ok (.invokevirtual 122, 3) := by decide +kernel
theorem dX5_markEnd_59 : decode cX5_markEnd 59 = .ok (.aload_n 0, 1) := by decide +kernel
theorem dX5_markEnd_60 : decode cX5_markEnd 60 = .ok (.invokevirtual 129, 3) := by decide +kernel
theorem dX5_markEnd_63 : decode cX5_markEnd 63 = .ok (.iconst 1, 1) := by decide +kernel
theorem dX5_markEnd_64 : decode cX5_markEnd 64 = .ok (.ireturn, 1) := by decide +kernel
set_option maxRecDepth 20000 in
theorem ggX5_firstOpenOf_X4_firstOpen : GoodIn wsX5_firstOpenOf wsX4_firstOpen := goodIn_r _ [5, 6, 7, 8, 9, 10, 11, 4, 12, 13, 14, 15, 16, 17, 18, 19, 20, 21, 22, 23, 24, 25, 26, 27, 28, 29, 30, 31, 32, 33, 34, 35, 36, 37, 38, 39, 40, 41, 42, 43, 44, 45] (by decide +kernel) (by decide +kernel)
set_option maxRecDepth 20000 in
theorem gX5_firstOpenOf_X4_firstOpen : GoodIn wsX5_firstOpenOf (wsV RX5 261 RX4 yX4_firstOpen wsX4_firstOpen) := goodIn_app (goodIn_of _ (by decide +kernel)) ggX5_firstOpenOf_X4_firstOpen
theorem dX5_firstOpenOf_0 : decode cX5_firstOpenOf 0 = .ok (.aload_n 0, 1) := by decide +kernel
theorem dX5_firstOpenOf_1 : decode cX5_firstOpenOf 1 = .ok (.ifnonnull 7, 3) := by decide +kernel
theorem dX5_firstOpenOf_4 : decode cX5_firstOpenOf 4 = .ok (.iconst (-1), 1) := by decide +kernel
theorem dX5_firstOpenOf_5 : decode cX5_firstOpenOf 5 = .ok (.goto 7, 3) := by decide +kernel
theorem dX5_firstOpenOf_8 : decode cX5_firstOpenOf 8 = .ok (.aload_n 0, 1) := by decide +kernel
theorem dX5_firstOpenOf_9 : decode cX5_firstOpenOf 9 = .ok (.invokevirtual 261, 3) := by decide +kernel
theorem dX5_firstOpenOf_12 : decode cX5_firstOpenOf 12 = .ok (.ireturn, 1) := by decide +kernel
theorem dX5_contains_0 : decode cX5_contains 0 = .ok (.iload_n 1, 1) := by decide +kernel
theorem dX5_contains_1 : decode cX5_contains 1 = .ok (.ifCond .lt 22, 3) := by decide +kernel
theorem dX5_contains_4 : decode cX5_contains 4 = .ok (.iload_n 1, 1) := by decide +kernel
theorem dX5_contains_5 : decode cX5_contains 5 = .ok (.bipush 8, 2) := by decide +kernel
theorem dX5_contains_7 : decode cX5_contains 7 = .ok (.if_icmp .ge 16, 3) := by decide +kernel
theorem dX5_contains_10 : decode cX5_contains 10 = .ok (.iload_n 0, 1) := by decide +kernel
theorem dX5_contains_11 : decode cX5_contains 11 = .ok (.iload_n 1, 1) := by decide +kernel
theorem dX5_contains_12 : decode cX5_contains 12 = .ok (.ishr, 1) := by decide +kernel
theorem dX5_contains_13 : decode cX5_contains 13 = .ok (.iconst 1, 1) := by decide +kernel
theorem dX5_contains_14 : decode cX5_contains 14 = .ok (.iand, 1) := by decide +kernel
theorem dX5_contains_15 : decode cX5_contains 15 = .ok (.iconst 1, 1) := by decide +kernel
theorem dX5_contains_16 : decode cX5_contains 16 = .ok (.if_icmp .ne 7, 3) := by decide +kernel
theorem dX5_contains_19 : decode cX5_contains 19 = .ok (.iconst 1, 1) := by decide +kernel
theorem dX5_contains_20 : decode cX5_contains 20 = .ok (.goto 4, 3) := by decide +kernel
theorem dX5_contains_23 : decode cX5_contains 23 = .ok (.iconst 0, 1) := by decide +kernel
theorem dX5_contains_24 : decode cX5_contains 24 = .ok (.ireturn, 1) := by decide +kernel
set_option maxRecDepth 20000 in
theorem ggX5_leastOf_X5_contains : GoodIn wsX5_leastOf wsX5_contains := goodIn_r _ [4] (by decide +kernel) (by decide +kernel)
set_option maxRecDepth 20000 in
theorem gX5_leastOf_X5_contains : GoodIn wsX5_leastOf (va_wsS RX5 138 yX5_contains wsX5_contains) := goodIn_app (goodIn_of _ (by decide +kernel)) ggX5_leastOf_X5_contains
theorem dX5_leastOf_0 : decode cX5_leastOf 0 = .ok (.iconst 0, 1) := by decide +kernel
theorem dX5_leastOf_1 : decode cX5_leastOf 1 = .ok (.istore_n 1, 1) := by decide +kernel
theorem dX5_leastOf_2 : decode cX5_leastOf 2 = .ok (.iload_n 1, 1) := by decide +kernel
theorem dX5_leastOf_3 : decode cX5_leastOf 3 = .ok (.bipush 8, 2) := by decide +kernel
theorem dX5_leastOf_5 : decode cX5_leastOf 5 = .ok (.if_icmp .ge 19, 3) := by decide +kernel
theorem dX5_leastOf_8 : decode cX5_leastOf 8 = .ok (.iload_n 0, 1) := by decide +kernel
theorem dX5_leastOf_9 : decode cX5_leastOf 9 = .ok (.iload_n 1, 1) := by decide +kernel
theorem dX5_leastOf_10 : decode cX5_leastOf 10 = .ok (.invokestatic 138, 3) := by decide +kernel
theorem dX5_leastOf_13 : decode cX5_leastOf 13 = .ok (.ifCond .eq 5, 3) := by decide +kernel
theorem dX5_leastOf_16 : decode cX5_leastOf 16 = .ok (.iload_n 1, 1) := by decide +kernel
theorem dX5_leastOf_17 : decode cX5_leastOf 17 = .ok (.ireturn, 1) := by decide +kernel
theorem dX5_leastOf_18 : decode cX5_leastOf 18 = .ok (.iinc 1 1, 3) := by decide +kernel
theorem dX5_leastOf_21 : decode cX5_leastOf 21 = .ok (.goto (-19), 3) := by decide +kernel
theorem dX5_leastOf_24 : decode cX5_leastOf 24 = .ok (.iconst (-1), 1) := by decide +kernel
theorem dX5_leastOf_25 : decode cX5_leastOf 25 = .ok (.ireturn, 1) := by decide +kernel
end
section
theorem dX7_in_0 : decode cX7_in 0 = .ok (.lload_n 0, 1) := by decide +kernel
theorem dX7_in_1 : decode cX7_in 1 = .ok (.lload_n 2, 1) := by decide +kernel
theorem dX7_in_2 : decode cX7_in 2 = .ok (.lcmp, 1) := by decide +kernel
theorem dX7_in_3 : decode cX7_in 3 = .ok (.ifCond .lt 14, 3) := by decide +kernel
theorem dX7_in_6 : decode cX7_in 6 = .ok (.lload_n 0, 1) := by decide +kernel
theorem dX7_in_7 : decode cX7_in 7 = .ok (.lload 4, 2) := by decide +kernel
theorem dX7_in_9 : decode cX7_in 9 = .ok (.lcmp, 1) := by decide +kernel
theorem dX7_in_10 : decode cX7_in 10 = .ok (.ifCond .gt 7, 3) := by decide +kernel
theorem dX7_in_13 : decode cX7_in 13 = .ok (.iconst 1, 1) := by decide +kernel
theorem dX7_in_14 : decode cX7_in 14 = .ok (.goto 4, 3) := by decide +kernel
theorem dX7_in_17 : decode cX7_in 17 = .ok (.iconst 0, 1) := by decide +kernel
theorem dX7_in_18 : decode cX7_in 18 = .ok (.ireturn, 1) := by decide +kernel
set_option maxRecDepth 20000 in
theorem ggX7_init_X6_init : GoodIn wsX7_init wsX6_init := goodIn_r _ [27, 28, 2, 3, 7, 29, 52, 53, 54, 55, 56, 57, 58] (by decide +kernel) (by decide +kernel)
set_option maxRecDepth 20000 in
theorem gX7_init_X6_init_n67 : GoodIn wsX7_init (wsX6_init) := ggX7_init_X6_init
set_option maxRecDepth 20000 in
theorem ggX7_init_J7_fill_53178 : GoodIn wsX7_init wsJ7_fill_53178 := goodIn_r _ [33] (by decide +kernel) (by decide +kernel)
set_option maxRecDepth 20000 in
theorem gX7_init_J7_fill_53178 : GoodIn wsX7_init (va_wsS RX7 68 yJ7_fill_53178 wsJ7_fill_53178) := goodIn_app (goodIn_of _ (by decide +kernel)) ggX7_init_J7_fill_53178
theorem dX7_init_0 : decode cX7_init 0 = .ok (.aload_n 0, 1) := by decide +kernel
theorem dX7_init_1 : decode cX7_init 1 = .ok (.invokespecial 1, 3) := by decide +kernel
theorem dX7_init_4 : decode cX7_init 4 = .ok (.aload_n 0, 1) := by decide +kernel
theorem dX7_init_5 : decode cX7_init 5 = .ok (.iconst 4, 1) := by decide +kernel
theorem dX7_init_6 : decode cX7_init 6 = .ok (.iconst 5, 1) := by decide +kernel
theorem dX7_init_7 : decode cX7_init 7 = .ok (.multianewarray 9 2, 4) := by decide +kernel
theorem dX7_init_11 : decode cX7_init 11 = .ok (.putfield 11, 3) := by decide +kernel
theorem dX7_init_14 : decode cX7_init 14 = .ok (.aload_n 0, 1) := by decide +kernel
theorem dX7_init_15 : decode cX7_init 15 = .ok (.iconst 4, 1) := by decide +kernel
theorem dX7_init_16 : decode cX7_init 16 = .ok (.newarray .boolean, 2) := by decide +kernel
theorem dX7_init_18 : decode cX7_init 18 = .ok (.putfield 14, 3) := by decide +kernel
theorem dX7_init_21 : decode cX7_init 21 = .ok (.aload_n 0, 1) := by decide +kernel
theorem dX7_init_22 : decode cX7_init 22 = .ok (.iconst 4, 1) := by decide +kernel
theorem dX7_init_23 : decode cX7_init 23 = .ok (.newarray .int, 2) := by decide +kernel
theorem dX7_init_25 : decode cX7_init 25 = .ok (.putfield 18, 3) := by decide +kernel
theorem dX7_init_28 : decode cX7_init 28 = .ok (.aload_n 0, 1) := by decide +kernel
theorem dX7_init_29 : decode cX7_init 29 = .ok (.iconst 4, 1) := by decide +kernel
theorem dX7_init_30 : decode cX7_init 30 = .ok (.newarray .int, 2) := by decide +kernel
theorem dX7_init_32 : decode cX7_init 32 = .ok (.putfield 22, 3) := by decide +kernel
theorem dX7_init_35 : decode cX7_init 35 = .ok (.aload_n 0, 1) := by decide +kernel
theorem dX7_init_36 : decode cX7_init 36 = .ok (.iconst 4, 1) := by decide +kernel
theorem dX7_init_37 : decode cX7_init 37 = .ok (.newarray .int, 2) := by decide +kernel
theorem dX7_init_39 : decode cX7_init 39 = .ok (.putfield 25, 3) := by decide +kernel
theorem dX7_init_42 : decode cX7_init 42 = .ok (.aload_n 0, 1) := by decide +kernel
theorem dX7_init_43 : decode cX7_init 43 = .ok (.iconst 4, 1) := by decide +kernel
theorem dX7_init_44 : decode cX7_init 44 = .ok (.newarray .int, 2) := by decide +kernel
theorem dX7_init_46 : decode cX7_init 46 = .ok (.putfield 28, 3) := by decide +kernel
theorem dX7_init_49 : decode cX7_init 49 = .ok (.aload_n 0, 1) := by decide +kernel
theorem dX7_init_50 : decode cX7_init 50 = .ok (.iconst 4, 1) := by decide +kernel
theorem dX7_init_51 : decode cX7_init 51 = .ok (.newarray .int, 2) := by decide +kernel
theorem dX7_init_53 : decode cX7_init 53 = .ok (.putfield 31, 3) := by decide +kernel
theorem dX7_init_56 : decode cX7_init 56 = .ok (.aload_n 0, 1) := by decide +kernel
theorem dX7_init_57 : decode cX7_init 57 = .ok (.bipush 6, 2) := by decide +kernel
theorem dX7_init_59 : decode cX7_init 59 = .ok (.newarray .int, 2) := by decide +kernel
theorem dX7_init_61 : decode cX7_init 61 = .ok (.putfield 34, 3) := by decide +kernel
theorem dX7_init_64 : decode cX7_init 64 = .ok (.aload_n 0, 1) := by decide +kernel
theorem dX7_init_65 : decode cX7_init 65 = .ok (.bipush 6, 2) := by decide +kernel
theorem dX7_init_67 : decode cX7_init 67 = .ok (.newarray .int, 2) := by decide +kernel
theorem dX7_init_69 : decode cX7_init 69 = .ok (.putfield 37, 3) := by decide +kernel
theorem dX7_init_72 : decode cX7_init 72 = .ok (.aload_n 0, 1) := by decide +kernel
theorem dX7_init_73 : decode cX7_init 73 = .ok (.bipush 6, 2) := by decide +kernel
theorem dX7_init_75 : decode cX7_init 75 = .ok (.newarray .int, 2) := by decide +kernel
theorem dX7_init_77 : decode cX7_init 77 = .ok (.putfield 40, 3) := by decide +kernel
theorem dX7_init_80 : decode cX7_init 80 = .ok (.aload_n 0, 1) := by decide +kernel
theorem dX7_init_81 : decode cX7_init 81 = .ok (.bipush 6, 2) := by decide +kernel
theorem dX7_init_83 : decode cX7_init 83 = .ok (.newarray .int, 2) := by decide +kernel
theorem dX7_init_85 : decode cX7_init 85 = .ok (.putfield 43, 3) := by decide +kernel
theorem dX7_init_88 : decode cX7_init 88 = .ok (.aload_n 0, 1) := by decide +kernel
theorem dX7_init_89 : decode cX7_init 89 = .ok (.bipush 6, 2) := by decide +kernel
theorem dX7_init_91 : decode cX7_init 91 = .ok (.newarray .int, 2) := by decide +kernel
theorem dX7_init_93 : decode cX7_init 93 = .ok (.putfield 46, 3) := by decide +kernel
theorem dX7_init_96 : decode cX7_init 96 = .ok (.aload_n 0, 1) := by decide +kernel
theorem dX7_init_97 : decode cX7_init 97 = .ok (.iconst 4, 1) := by decide +kernel
theorem dX7_init_98 : decode cX7_init 98 = .ok (.newarray .int, 2) := by decide +kernel
theorem dX7_init_100 : decode cX7_init 100 = .ok (.putfield 49, 3) := by decide +kernel
theorem dX7_init_103 : decode cX7_init 103 = .ok (.aload_n 0, 1) := by decide +kernel
theorem dX7_init_104 : decode cX7_init 104 = .ok (.iconst 4, 1) := by decide +kernel
theorem dX7_init_105 : decode cX7_init 105 = .ok (.newarray .int, 2) := by decide +kernel
theorem dX7_init_107 : decode cX7_init 107 = .ok (.putfield 52, 3) := by decide +kernel
theorem dX7_init_110 : decode cX7_init 110 = .ok (.aload_n 0, 1) := by decide +kernel
theorem dX7_init_111 : decode cX7_init 111 = .ok (.bipush 16, 2) := by decide +kernel
theorem dX7_init_113 : decode cX7_init 113 = .ok (.newarray .int, 2) := by decide +kernel
theorem dX7_init_115 : decode cX7_init 115 = .ok (.putfield 55, 3) := by decide +kernel
theorem dX7_init_118 : decode cX7_init 118 = .ok (.aload_n 0, 1) := by decide +kernel
theorem dX7_init_119 : decode cX7_init 119 = .ok (.bipush 6, 2) := by decide +kernel
theorem dX7_init_121 : decode cX7_init 121 = .ok (.newarray .int, 2) := by decide +kernel
theorem dX7_init_123 : decode cX7_init 123 = .ok (.putfield 58, 3) := by decide +kernel
theorem dX7_init_126 : decode cX7_init 126 = .ok (.aload_n 0, 1) := by decide +kernel
theorem dX7_init_127 : decode cX7_init 127 = .ok (.bipush 31, 2) := by decide +kernel
theorem dX7_init_129 : decode cX7_init 129 = .ok (.putfield 61, 3) := by decide +kernel
theorem dX7_init_132 : decode cX7_init 132 = .ok (.iconst 0, 1) := by decide +kernel
theorem dX7_init_133 : decode cX7_init 133 = .ok (.istore_n 1, 1) := by decide +kernel
theorem dX7_init_134 : decode cX7_init 134 = .ok (.iload_n 1, 1) := by decide +kernel
theorem dX7_init_135 : decode cX7_init 135 = .ok (.iconst 4, 1) := by decide +kernel
theorem dX7_init_136 : decode cX7_init 136 = .ok (.if_icmp .ge 37, 3) := by decide +kernel
theorem dX7_init_139 : decode cX7_init 139 = .ok (.iconst 0, 1) := by decide +kernel
theorem dX7_init_140 : decode cX7_init 140 = .ok (.istore_n 2, 1) := by decide +kernel
theorem dX7_init_141 : decode cX7_init 141 = .ok (.iload_n 2, 1) := by decide +kernel
theorem dX7_init_142 : decode cX7_init 142 = .ok (.iconst 5, 1) := by decide +kernel
theorem dX7_init_143 : decode cX7_init 143 = .ok (.if_icmp .ge 24, 3) := by decide +kernel
theorem dX7_init_146 : decode cX7_init 146 = .ok (.aload_n 0, 1) := by decide +kernel
theorem dX7_init_147 : decode cX7_init 147 = .ok (.getfield 11, 3) := by decide +kernel
theorem dX7_init_150 : decode cX7_init 150 = .ok (.iload_n 1, 1) := by decide +kernel
theorem dX7_init_151 : decode cX7_init 151 = .ok (.aaload, 1) := by decide +kernel
theorem dX7_init_152 : decode cX7_init 152 = .ok (.iload_n 2, 1) := by decide +kernel
theorem dX7_init_153 : decode cX7_init 153 = .ok (.new 65, 3) := by decide +kernel
theorem dX7_init_156 : decode cX7_init 156 = .ok (.dup, 1) := by decide +kernel
theorem dX7_init_157 : decode cX7_init 157 = .ok (.invokespecial 67, 3) := by decide +kernel
theorem dX7_init_160 : decode cX7_init 160 = .ok (.aastore, 1) := by decide +kernel
theorem dX7_init_161 : decode cX7_init 161 = .ok (.iinc 2 1, 3) := by decide +kernel
theorem dX7_init_164 : decode cX7_init 164 = .ok (.goto (-23), 3) := by decide +kernel
theorem dX7_init_167 : decode cX7_init 167 = .ok (.iinc 1 1, 3) := by decide +kernel
theorem dX7_init_170 : decode cX7_init 170 = .ok (.goto (-36), 3) := by decide +kernel
theorem dX7_init_173 : decode cX7_init 173 = .ok (.aload_n 0, 1) := by decide +kernel
theorem dX7_init_174 : decode cX7_init 174 = .ok (.getfield 34, 3) := by decide +kernel
theorem dX7_init_177 : decode cX7_init 177 = .ok (.iconst (-1), 1) := by decide +kernel
theorem dX7_init_178 : decode cX7_init 178 = .ok (.invokestatic 68, 3) := by decide +kernel
theorem dX7_init_181 : decode cX7_init 181 = .ok (.aload_n 0, 1) := by decide +kernel
theorem dX7_init_182 : decode cX7_init 182 = .ok (.getfield 22, 3) := by decide +kernel
theorem dX7_init_185 : decode cX7_init 185 = .ok (.iconst (-1), 1) := by decide +kernel
theorem dX7_init_186 : decode cX7_init 186 = .ok (.invokestatic 68, 3) := by decide +kernel
theorem dX7_init_189 : decode cX7_init 189 = .ok (.return_, 1) := by decide +kernel
set_option maxRecDepth 20000 in
theorem ggX7_isUp_X7_in : GoodIn wsX7_isUp wsX7_in := goodIn_r _ [6] (by decide +kernel) (by decide +kernel)
set_option maxRecDepth 20000 in
theorem gX7_isUp_X7_in : GoodIn wsX7_isUp (va_wsS RX7 76 yX7_in wsX7_in) := goodIn_app (goodIn_of _ (by decide +kernel)) ggX7_isUp_X7_in
theorem dX7_isUp_0 : decode cX7_isUp 0 = .ok (.iload_n 1, 1) := by decide +kernel
theorem dX7_isUp_1 : decode cX7_isUp 1 = .ok (.i2l, 1) := by decide +kernel
theorem dX7_isUp_2 : decode cX7_isUp 2 = .ok (.lconst 0, 1) := by decide +kernel
theorem dX7_isUp_3 : decode cX7_isUp 3 = .ok (.ldc2_w 74, 3) := by decide +kernel
theorem dX7_isUp_6 : decode cX7_isUp 6 = .ok (.invokestatic 76, 3) := by decide +kernel
theorem dX7_isUp_9 : decode cX7_isUp 9 = .ok (.ifCond .eq 19, 3) := by decide +kernel
theorem dX7_isUp_12 : decode cX7_isUp 12 = .ok (.aload_n 0, 1) := by decide +kernel
theorem dX7_isUp_13 : decode cX7_isUp 13 = .ok (.getfield 61, 3) := by decide +kernel
theorem dX7_isUp_16 : decode cX7_isUp 16 = .ok (.iload_n 1, 1) := by decide +kernel
theorem dX7_isUp_17 : decode cX7_isUp 17 = .ok (.ishr, 1) := by decide +kernel
theorem dX7_isUp_18 : decode cX7_isUp 18 = .ok (.iconst 1, 1) := by decide +kernel
theorem dX7_isUp_19 : decode cX7_isUp 19 = .ok (.iand, 1) := by decide +kernel
theorem dX7_isUp_20 : decode cX7_isUp 20 = .ok (.iconst 1, 1) := by decide +kernel
theorem dX7_isUp_21 : decode cX7_isUp 21 = .ok (.if_icmp .ne 7, 3) := by decide +kernel
theorem dX7_isUp_24 : decode cX7_isUp 24 = .ok (.iconst 1, 1) := by decide +kernel
theorem dX7_isUp_25 : decode cX7_isUp 25 = .ok (.goto 4, 3) := by decide +kernel
theorem dX7_isUp_28 : decode cX7_isUp 28 = .ok (.iconst 0, 1) := by decide +kernel
theorem dX7_isUp_29 : decode cX7_isUp 29 = .ok (.ireturn, 1) := by decide +kernel
set_option maxRecDepth 20000 in
theorem ggX7_isThere_X7_in : GoodIn wsX7_isThere wsX7_in := goodIn_r _ [6] (by decide +kernel) (by decide +kernel)
set_option maxRecDepth 20000 in
theorem gX7_isThere_X7_in : GoodIn wsX7_isThere (va_wsS RX7 76 yX7_in wsX7_in) := goodIn_app (goodIn_of _ (by decide +kernel)) ggX7_isThere_X7_in
theorem dX7_isThere_0 : decode cX7_isThere 0 = .ok (.iload_n 1, 1) := by decide +kernel
theorem dX7_isThere_1 : decode cX7_isThere 1 = .ok (.i2l, 1) := by decide +kernel
theorem dX7_isThere_2 : decode cX7_isThere 2 = .ok (.lconst 0, 1) := by decide +kernel
theorem dX7_isThere_3 : decode cX7_isThere 3 = .ok (.ldc2_w 80, 3) := by decide +kernel
theorem dX7_isThere_6 : decode cX7_isThere 6 = .ok (.invokestatic 76, 3) := by decide +kernel
theorem dX7_isThere_9 : decode cX7_isThere 9 = .ok (.ifCond .eq 16, 3) := by decide +kernel
theorem dX7_isThere_12 : decode cX7_isThere 12 = .ok (.aload_n 0, 1) := by decide +kernel
theorem dX7_isThere_13 : decode cX7_isThere 13 = .ok (.getfield 14, 3) := by decide +kernel
theorem dX7_isThere_16 : decode cX7_isThere 16 = .ok (.iload_n 1, 1) := by decide +kernel
theorem dX7_isThere_17 : decode cX7_isThere 17 = .ok (.baload, 1) := by decide +kernel
theorem dX7_isThere_18 : decode cX7_isThere 18 = .ok (.ifCond .eq 7, 3) := by decide +kernel
theorem dX7_isThere_21 : decode cX7_isThere 21 = .ok (.iconst 1, 1) := by decide +kernel
theorem dX7_isThere_22 : decode cX7_isThere 22 = .ok (.goto 4, 3) := by decide +kernel
theorem dX7_isThere_25 : decode cX7_isThere 25 = .ok (.iconst 0, 1) := by decide +kernel
theorem dX7_isThere_26 : decode cX7_isThere 26 = .ok (.ireturn, 1) := by decide +kernel
set_option maxRecDepth 20000 in
theorem ggX7_isReplica_X7_isThere : GoodIn wsX7_isReplica wsX7_isThere := goodIn_r _ [7, 8, 9, 10, 11, 6, 12, 13, 14, 15, 16, 17, 18, 19, 20, 21, 22, 23, 24, 25, 26, 27, 28, 29, 30] (by decide +kernel) (by decide +kernel)
set_option maxRecDepth 20000 in
theorem gX7_isReplica_X7_isThere : GoodIn wsX7_isReplica (wsV RX7 82 RX7 yX7_isThere wsX7_isThere) := goodIn_app (goodIn_of _ (by decide +kernel)) ggX7_isReplica_X7_isThere
set_option maxRecDepth 20000 in
theorem ggX7_isReplica_X7_in : GoodIn wsX7_isReplica wsX7_in := goodIn_r _ [12] (by decide +kernel) (by decide +kernel)
set_option maxRecDepth 20000 in
theorem gX7_isReplica_X7_in : GoodIn wsX7_isReplica (va_wsS RX7 76 yX7_in wsX7_in) := goodIn_app (goodIn_of _ (by decide +kernel)) ggX7_isReplica_X7_in
theorem dX7_isReplica_0 : decode cX7_isReplica 0 = .ok (.aload_n 0, 1) := by decide +kernel
theorem dX7_isReplica_1 : decode cX7_isReplica 1 = .ok (.iload_n 2, 1) := by decide +kernel
theorem dX7_isReplica_2 : decode cX7_isReplica 2 = .ok (.invokevirtual 82, 3) := by decide +kernel
theorem dX7_isReplica_5 : decode cX7_isReplica 5 = .ok (.ifCond .eq 33, 3) := by decide +kernel
theorem dX7_isReplica_8 : decode cX7_isReplica 8 = .ok (.iload_n 1, 1) := by decide +kernel
theorem dX7_isReplica_9 : decode cX7_isReplica 9 = .ok (.i2l, 1) := by decide +kernel
theorem dX7_isReplica_10 : decode cX7_isReplica 10 = .ok (.lconst 0, 1) := by decide +kernel
theorem dX7_isReplica_11 : decode cX7_isReplica 11 = .ok (.ldc2_w 74, 3) := by decide +kernel
theorem dX7_isReplica_14 : decode cX7_isReplica 14 = .ok (.invokestatic 76, 3) := by decide +kernel
theorem dX7_isReplica_17 : decode cX7_isReplica 17 = .ok (.ifCond .eq 21, 3) := by decide +kernel
theorem dX7_isReplica_20 : decode cX7_isReplica 20 = .ok (.aload_n 0, 1) := by decide +kernel
theorem dX7_isReplica_21 : decode cX7_isReplica 21 = .ok (.getfield 18, 3) := by decide +kernel
theorem dX7_isReplica_24 : decode cX7_isReplica 24 = .ok (.iload_n 2, 1) := by decide +kernel
theorem dX7_isReplica_25 : decode cX7_isReplica 25 = .ok (.iaload, 1) := by decide +kernel
theorem dX7_isReplica_26 : decode cX7_isReplica 26 = .ok (.iload_n 1, 1) := by decide +kernel
theorem dX7_isReplica_27 : decode cX7_isReplica 27 = .ok (.ishr, 1) := by decide +kernel
theorem dX7_isReplica_28 : decode cX7_isReplica 28 = .ok (.iconst 1, 1) := by decide +kernel
theorem dX7_isReplica_29 : decode cX7_isReplica 29 = .ok (.iand, 1) := by decide +kernel
theorem dX7_isReplica_30 : decode cX7_isReplica 30 = .ok (.iconst 1, 1) := by decide +kernel
theorem dX7_isReplica_31 : decode cX7_isReplica 31 = .ok (.if_icmp .ne 7, 3) := by decide +kernel
theorem dX7_isReplica_34 : decode cX7_isReplica 34 = .ok (.iconst 1, 1) := by decide +kernel
theorem dX7_isReplica_35 : decode cX7_isReplica 35 = .ok (.goto 4, 3) := by decide +kernel
theorem dX7_isReplica_38 : decode cX7_isReplica 38 = .ok (.iconst 0, 1) := by decide +kernel
theorem dX7_isReplica_39 : decode cX7_isReplica 39 = .ok (.ireturn, 1) := by decide +kernel
set_option maxRecDepth 20000 in
theorem ggX7_own_X7_isUp : GoodIn wsX7_own wsX7_isUp := goodIn_r _ [7, 8, 9, 10, 11, 6, 12, 13, 14, 15, 16, 17, 18, 19, 20, 21, 22, 23, 24, 25, 26, 27, 28, 29, 30] (by decide +kernel) (by decide +kernel)
set_option maxRecDepth 20000 in
theorem gX7_own_X7_isUp : GoodIn wsX7_own (wsV RX7 86 RX7 yX7_isUp wsX7_isUp) := goodIn_app (goodIn_of _ (by decide +kernel)) ggX7_own_X7_isUp
theorem dX7_own_0 : decode cX7_own 0 = .ok (.aload_n 0, 1) := by decide +kernel
theorem dX7_own_1 : decode cX7_own 1 = .ok (.getfield 22, 3) := by decide +kernel
theorem dX7_own_4 : decode cX7_own 4 = .ok (.iload_n 1, 1) := by decide +kernel
theorem dX7_own_5 : decode cX7_own 5 = .ok (.iaload, 1) := by decide +kernel
theorem dX7_own_6 : decode cX7_own 6 = .ok (.ifCond .lt 32, 3) := by decide +kernel
theorem dX7_own_9 : decode cX7_own 9 = .ok (.aload_n 0, 1) := by decide +kernel
theorem dX7_own_10 : decode cX7_own 10 = .ok (.aload_n 0, 1) := by decide +kernel
theorem dX7_own_11 : decode cX7_own 11 = .ok (.getfield 22, 3) := by decide +kernel
theorem dX7_own_14 : decode cX7_own 14 = .ok (.iload_n 1, 1) := by decide +kernel
theorem dX7_own_15 : decode cX7_own 15 = .ok (.iaload, 1) := by decide +kernel
theorem dX7_own_16 : decode cX7_own 16 = .ok (.invokevirtual 86, 3) := by decide +kernel
theorem dX7_own_19 : decode cX7_own 19 = .ok (.ifCond .eq 19, 3) := by decide +kernel
theorem dX7_own_22 : decode cX7_own 22 = .ok (.aload_n 0, 1) := by decide +kernel
theorem dX7_own_23 : decode cX7_own 23 = .ok (.getfield 11, 3) := by decide +kernel
theorem dX7_own_26 : decode cX7_own 26 = .ok (.iload_n 1, 1) := by decide +kernel
theorem dX7_own_27 : decode cX7_own 27 = .ok (.aaload, 1) := by decide +kernel
theorem dX7_own_28 : decode cX7_own 28 = .ok (.aload_n 0, 1) := by decide +kernel
theorem dX7_own_29 : decode cX7_own 29 = .ok (.getfield 22, 3) := by decide +kernel
theorem dX7_own_32 : decode cX7_own 32 = .ok (.iload_n 1, 1) := by decide +kernel
theorem dX7_own_33 : decode cX7_own 33 = .ok (.iaload, 1) := by decide +kernel
theorem dX7_own_34 : decode cX7_own 34 = .ok (.aaload, 1) := by decide +kernel
theorem dX7_own_35 : decode cX7_own 35 = .ok (.goto 4, 3) := by decide +kernel
theorem dX7_own_38 : decode cX7_own 38 = .ok (.aconst_null, 1) := by decide +kernel
theorem dX7_own_39 : decode cX7_own 39 = .ok (.areturn, 1) := by decide +kernel
theorem dX7_known_0 : decode cX7_known 0 = .ok (.iload_n 2, 1) := by decide +kernel
theorem dX7_known_1 : decode cX7_known 1 = .ok (.aload_n 0, 1) := by decide +kernel
theorem dX7_known_2 : decode cX7_known 2 = .ok (.getfield 22, 3) := by decide +kernel
theorem dX7_known_5 : decode cX7_known 5 = .ok (.iload_n 1, 1) := by decide +kernel
theorem dX7_known_6 : decode cX7_known 6 = .ok (.iaload, 1) := by decide +kernel
theorem dX7_known_7 : decode cX7_known 7 = .ok (.if_icmp .ne 17, 3) := by decide +kernel
theorem dX7_known_10 : decode cX7_known 10 = .ok (.aload_n 0, 1) := by decide +kernel
theorem dX7_known_11 : decode cX7_known 11 = .ok (.getfield 11, 3) := by decide +kernel
theorem dX7_known_14 : decode cX7_known 14 = .ok (.iload_n 1, 1) := by decide +kernel
theorem dX7_known_15 : decode cX7_known 15 = .ok (.aaload, 1) := by decide +kernel
theorem dX7_known_16 : decode cX7_known 16 = .ok (.iload_n 2, 1) := by decide +kernel
theorem dX7_known_17 : decode cX7_known 17 = .ok (.aaload, 1) := by decide +kernel
theorem dX7_known_18 : decode cX7_known 18 = .ok (.getfield 89, 3) := by decide +kernel
theorem dX7_known_21 : decode cX7_known 21 = .ok (.goto 14, 3) := by decide +kernel
theorem dX7_known_24 : decode cX7_known 24 = .ok (.aload_n 0, 1) := by decide +kernel
theorem dX7_known_25 : decode cX7_known 25 = .ok (.getfield 11, 3) := by decide +kernel
theorem dX7_known_28 : decode cX7_known 28 = .ok (.iload_n 1, 1) := by decide +kernel
theorem dX7_known_29 : decode cX7_known 29 = .ok (.aaload, 1) := by decide +kernel
theorem dX7_known_30 : decode cX7_known 30 = .ok (.iload_n 2, 1) := by decide +kernel
theorem dX7_known_31 : decode cX7_known 31 = .ok (.aaload, 1) := by decide +kernel
theorem dX7_known_32 : decode cX7_known 32 = .ok (.getfield 92, 3) := by decide +kernel
theorem dX7_known_35 : decode cX7_known 35 = .ok (.ireturn, 1) := by decide +kernel
set_option maxRecDepth 20000 in
theorem ggX7_rise_X7_own : GoodIn wsX7_rise wsX7_own := goodIn_r _ [12, 13, 14, 15, 16, 17, 11, 18, 19, 20, 21, 22, 23, 30, 31, 32, 33, 34, 35, 36, 37, 38, 39, 40, 41, 42, 43, 44, 45, 46, 47] (by decide +kernel) (by decide +kernel)
set_option maxRecDepth 20000 in
theorem gX7_rise_X7_own : GoodIn wsX7_rise (wsV RX7 95 RX7 yX7_own wsX7_own) := goodIn_app (goodIn_of _ (by decide +kernel)) ggX7_rise_X7_own
set_option maxRecDepth 20000 in
theorem ggX7_rise_X7_known : GoodIn wsX7_rise wsX7_known := goodIn_r _ [27, 13, 14, 28, 29, 30, 31, 32, 33, 34, 35, 36, 37, 38, 39, 40, 41, 42, 43, 44, 45, 46, 47, 48, 49, 50, 51, 52, 53, 54] (by decide +kernel) (by decide +kernel)
set_option maxRecDepth 20000 in
theorem gX7_rise_X7_known : GoodIn wsX7_rise (wsV RX7 102 RX7 yX7_known wsX7_known) := goodIn_app (goodIn_of _ (by decide +kernel)) ggX7_rise_X7_known
theorem dX7_rise_0 : decode cX7_rise 0 = .ok (.aload_n 0, 1) := by decide +kernel
theorem dX7_rise_1 : decode cX7_rise 1 = .ok (.iload_n 1, 1) := by decide +kernel
theorem dX7_rise_2 : decode cX7_rise 2 = .ok (.invokevirtual 95, 3) := by decide +kernel
theorem dX7_rise_5 : decode cX7_rise 5 = .ok (.astore_n 2, 1) := by decide +kernel
theorem dX7_rise_6 : decode cX7_rise 6 = .ok (.aload_n 2, 1) := by decide +kernel
theorem dX7_rise_7 : decode cX7_rise 7 = .ok (.ifnonnull 4, 3) := by decide +kernel
theorem dX7_rise_10 : decode cX7_rise 10 = .ok (.return_, 1) := by decide +kernel
theorem dX7_rise_11 : decode cX7_rise 11 = .ok (.ldc 101, 2) := by decide +kernel
theorem dX7_rise_13 : decode cX7_rise 13 = .ok (.istore_n 3, 1) := by decide +kernel
theorem dX7_rise_14 : decode cX7_rise 14 = .ok (.iconst 0, 1) := by decide +kernel
theorem dX7_rise_15 : decode cX7_rise 15 = .ok (.istore 4, 2) := by decide +kernel
theorem dX7_rise_17 : decode cX7_rise 17 = .ok (.iload 4, 2) := by decide +kernel
theorem dX7_rise_19 : decode cX7_rise 19 = .ok (.iconst 5, 1) := by decide +kernel
theorem dX7_rise_20 : decode cX7_rise 20 = .ok (.if_icmp .ge 36, 3) := by decide +kernel
theorem dX7_rise_23 : decode cX7_rise 23 = .ok (.aload_n 0, 1) := by decide +kernel
theorem dX7_rise_24 : decode cX7_rise 24 = .ok (.getfield 31, 3) := by decide +kernel
theorem dX7_rise_27 : decode cX7_rise 27 = .ok (.iload_n 1, 1) := by decide +kernel
theorem dX7_rise_28 : decode cX7_rise 28 = .ok (.iaload, 1) := by decide +kernel
theorem dX7_rise_29 : decode cX7_rise 29 = .ok (.iload 4, 2) := by decide +kernel
theorem dX7_rise_31 : decode cX7_rise 31 = .ok (.ishr, 1) := by decide +kernel
theorem dX7_rise_32 : decode cX7_rise 32 = .ok (.iconst 1, 1) := by decide +kernel
theorem dX7_rise_33 : decode cX7_rise 33 = .ok (.iand, 1) := by decide +kernel
theorem dX7_rise_34 : decode cX7_rise 34 = .ok (.iconst 1, 1) := by decide +kernel
theorem dX7_rise_35 : decode cX7_rise 35 = .ok (.if_icmp .ne 15, 3) := by decide +kernel
theorem dX7_rise_38 : decode cX7_rise 38 = .ok (.iload_n 3, 1) := by decide +kernel
theorem dX7_rise_39 : decode cX7_rise 39 = .ok (.aload_n 0, 1) := by decide +kernel
theorem dX7_rise_40 : decode cX7_rise 40 = .ok (.iload_n 1, 1) := by decide +kernel
theorem dX7_rise_41 : decode cX7_rise 41 = .ok (.iload 4, 2) := by decide +kernel
theorem dX7_rise_43 : decode cX7_rise 43 = .ok (.invokevirtual 102, 3) := by decide +kernel
theorem dX7_rise_46 : decode cX7_rise 46 = .ok (.invokestatic 105, 3) := by decide +kernel
theorem dX7_rise_49 : decode cX7_rise 49 = .ok (.istore_n 3, 1) := by decide +kernel
theorem dX7_rise_50 : decode cX7_rise 50 = .ok (.iinc 4 1, 3) := by decide +kernel
theorem dX7_rise_53 : decode cX7_rise 53 = .ok (.goto (-36), 3) := by decide +kernel
theorem dX7_rise_56 : decode cX7_rise 56 = .ok (.iload_n 3, 1) := by decide +kernel
theorem dX7_rise_57 : decode cX7_rise 57 = .ok (.ldc 101, 2) := by decide +kernel
theorem dX7_rise_59 : decode cX7_rise 59 = .ok (.if_icmp .eq 16, 3) := by decide +kernel
theorem dX7_rise_62 : decode cX7_rise 62 = .ok (.iload_n 3, 1) := by decide +kernel
theorem dX7_rise_63 : decode cX7_rise 63 = .ok (.aload_n 2, 1) := by decide +kernel
theorem dX7_rise_64 : decode cX7_rise 64 = .ok (.getfield 109, 3) := by decide +kernel
theorem dX7_rise_67 : decode cX7_rise 67 = .ok (.if_icmp .le 8, 3) := by decide +kernel
theorem dX7_rise_70 : decode cX7_rise 70 = .ok (.aload_n 2, 1) := by decide +kernel
theorem dX7_rise_71 : decode cX7_rise 71 = .ok (.iload_n 3, 1) := by decide +kernel
theorem dX7_rise_72 : decode cX7_rise 72 = .ok (.putfield 109, 3) := by decide +kernel
theorem dX7_rise_75 : decode cX7_rise 75 = .ok (.return_, 1) := by decide +kernel
set_option maxRecDepth 20000 in
theorem ggX7_create_X7_in : GoodIn wsX7_create wsX7_in := goodIn_r _ [16] (by decide +kernel) (by decide +kernel)
set_option maxRecDepth 20000 in
theorem gX7_create_X7_in : GoodIn wsX7_create (va_wsS RX7 76 yX7_in wsX7_in) := goodIn_app (goodIn_of _ (by decide +kernel)) ggX7_create_X7_in
set_option maxRecDepth 20000 in
theorem ggX7_create_J6_bitCount_0f7a4 : GoodIn wsX7_create wsJ6_bitCount_0f7a4 := goodIn_r _ [20, 21, 22, 23] (by decide +kernel) (by decide +kernel)
set_option maxRecDepth 20000 in
theorem gX7_create_J6_bitCount_0f7a4 : GoodIn wsX7_create (va_wsS RX7 112 yJ6_bitCount_0f7a4 wsJ6_bitCount_0f7a4) := goodIn_app (goodIn_of _ (by decide +kernel)) ggX7_create_J6_bitCount_0f7a4
set_option maxRecDepth 20000 in
theorem ggX7_create_J6_numberOfTrailingZeros_0f7a4 : GoodIn wsX7_create wsJ6_numberOfTrailingZeros_0f7a4 := goodIn_r _ [26, 27] (by decide +kernel) (by decide +kernel)
set_option maxRecDepth 20000 in
theorem gX7_create_J6_numberOfTrailingZeros_0f7a4 : GoodIn wsX7_create (va_wsS RX7 116 yJ6_numberOfTrailingZeros_0f7a4 wsJ6_numberOfTrailingZeros_0f7a4) := goodIn_app (goodIn_of _ (by decide +kernel)) ggX7_create_J6_numberOfTrailingZeros_0f7a4
theorem dX7_create_0 : decode cX7_create 0 = .ok (.iload_n 2, 1) := by decide +kernel
theorem dX7_create_1 : decode cX7_create 1 = .ok (.bipush 31, 2) := by decide +kernel
theorem dX7_create_3 : decode cX7_create 3 = .ok (.iand, 1) := by decide +kernel
theorem dX7_create_4 : decode cX7_create 4 = .ok (.istore 4, 2) := by decide +kernel
theorem dX7_create_6 : decode cX7_create 6 = .ok (.iload_n 1, 1) := by decide +kernel
theorem dX7_create_7 : decode cX7_create 7 = .ok (.i2l, 1) := by decide +kernel
theorem dX7_create_8 : decode cX7_create 8 = .ok (.lconst 0, 1) := by decide +kernel
theorem dX7_create_9 : decode cX7_create 9 = .ok (.ldc2_w 80, 3) := by decide +kernel
theorem dX7_create_12 : decode cX7_create 12 = .ok (.invokestatic 76, 3) := by decide +kernel
theorem dX7_create_15 : decode cX7_create 15 = .ok (.ifCond .eq 27, 3) := by decide +kernel
theorem dX7_create_18 : decode cX7_create 18 = .ok (.aload_n 0, 1) := by decide +kernel
theorem dX7_create_19 : decode cX7_create 19 = .ok (.getfield 14, 3) := by decide +kernel
theorem dX7_create_22 : decode cX7_create 22 = .ok (.iload_n 1, 1) := by decide +kernel
theorem dX7_create_23 : decode cX7_create 23 = .ok (.baload, 1) := by decide +kernel
theorem dX7_create_24 : decode cX7_create 24 = .ok (.ifCond .ne 18, 3) := by decide +kernel
theorem dX7_create_27 : decode cX7_create 27 = .ok (.iload_n 3, 1) := by decide +kernel
theorem dX7_create_28 : decode cX7_create 28 = .ok (.i2l, 1) := by decide +kernel
theorem dX7_create_29 : decode cX7_create 29 = .ok (.lconst 1, 1) := by decide +kernel
theorem dX7_create_30 : decode cX7_create 30 = .ok (.iload 4, 2) := by decide +kernel
theorem dX7_create_32 : decode cX7_create 32 = .ok (.invokestatic 112, 3) := by decide +kernel
theorem dX7_create_35 : decode cX7_create 35 = .ok (.i2l, 1) := by decide +kernel
theorem dX7_create_36 : decode cX7_create 36 = .ok (.invokestatic 76, 3) := by decide +kernel
theorem dX7_create_39 : decode cX7_create 39 = .ok (.ifCond .ne 5, 3) := by decide +kernel
theorem dX7_create_42 : decode cX7_create 42 = .ok (.iconst (-1), 1) := by decide +kernel
theorem dX7_create_43 : decode cX7_create 43 = .ok (.ireturn, 1) := by decide +kernel
theorem dX7_create_44 : decode cX7_create 44 = .ok (.iload 4, 2) := by decide +kernel
theorem dX7_create_46 : decode cX7_create 46 = .ok (.aload_n 0, 1) := by decide +kernel
theorem dX7_create_47 : decode cX7_create 47 = .ok (.getfield 61, 3) := by decide +kernel
theorem dX7_create_50 : decode cX7_create 50 = .ok (.iand, 1) := by decide +kernel
theorem dX7_create_51 : decode cX7_create 51 = .ok (.ifCond .ne 6, 3) := by decide +kernel
theorem dX7_create_54 : decode cX7_create 54 = .ok (.bipush (-2), 2) := by decide +kernel
theorem dX7_create_56 : decode cX7_create 56 = .ok (.ireturn, 1) := by decide +kernel
theorem dX7_create_57 : decode cX7_create 57 = .ok (.aload_n 0, 1) := by decide +kernel
theorem dX7_create_58 : decode cX7_create 58 = .ok (.getfield 14, 3) := by decide +kernel
theorem dX7_create_61 : decode cX7_create 61 = .ok (.iload_n 1, 1) := by decide +kernel
theorem dX7_create_62 : decode cX7_create 62 = .ok (.iconst 1, 1) := by decide +kernel
theorem dX7_create_63 : decode cX7_create 63 = .ok (.bastore, 1) := by decide +kernel
theorem dX7_create_64 : decode cX7_create 64 = .ok (.aload_n 0, 1) := by decide +kernel
theorem dX7_create_65 : decode cX7_create 65 = .ok (.getfield 18, 3) := by decide +kernel
theorem dX7_create_68 : decode cX7_create 68 = .ok (.iload_n 1, 1) := by decide +kernel
theorem dX7_create_69 : decode cX7_create 69 = .ok (.iload 4, 2) := by decide +kernel
theorem dX7_create_71 : decode cX7_create 71 = .ok (.iastore, 1) := by decide +kernel
theorem dX7_create_72 : decode cX7_create 72 = .ok (.aload_n 0, 1) := by decide +kernel
theorem dX7_create_73 : decode cX7_create 73 = .ok (.getfield 28, 3) := by decide +kernel
theorem dX7_create_76 : decode cX7_create 76 = .ok (.iload_n 1, 1) := by decide +kernel
theorem dX7_create_77 : decode cX7_create 77 = .ok (.iload_n 3, 1) := by decide +kernel
theorem dX7_create_78 : decode cX7_create 78 = .ok (.iastore, 1) := by decide +kernel
theorem dX7_create_79 : decode cX7_create 79 = .ok (.aload_n 0, 1) := by decide +kernel
theorem dX7_create_80 : decode cX7_create 80 = .ok (.getfield 25, 3) := by decide +kernel
theorem dX7_create_83 : decode cX7_create 83 = .ok (.iload_n 1, 1) := by decide +kernel
theorem dX7_create_84 : decode cX7_create 84 = .ok (.iconst 0, 1) := by decide +kernel
theorem dX7_create_85 : decode cX7_create 85 = .ok (.iastore, 1) := by decide +kernel
theorem dX7_create_86 : decode cX7_create 86 = .ok (.aload_n 0, 1) := by decide +kernel
theorem dX7_create_87 : decode cX7_create 87 = .ok (.getfield 31, 3) := by decide +kernel
theorem dX7_create_90 : decode cX7_create 90 = .ok (.iload_n 1, 1) := by decide +kernel
theorem dX7_create_91 : decode cX7_create 91 = .ok (.iload 4, 2) := by decide +kernel
theorem dX7_create_93 : decode cX7_create 93 = .ok (.aload_n 0, 1) := by decide +kernel
theorem dX7_create_94 : decode cX7_create 94 = .ok (.getfield 61, 3) := by decide +kernel
theorem dX7_create_97 : decode cX7_create 97 = .ok (.iand, 1) := by decide +kernel
theorem dX7_create_98 : decode cX7_create 98 = .ok (.iastore, 1) := by decide +kernel
theorem dX7_create_99 : decode cX7_create 99 = .ok (.aload_n 0, 1) := by decide +kernel
theorem dX7_create_100 : decode cX7_create 100 = .ok (.getfield 22, 3) := by decide +kernel
theorem dX7_create_103 : decode cX7_create 103 = .ok (.iload_n 1, 1) := by decide +kernel
theorem dX7_create_104 : decode cX7_create 104 = .ok (.aload_n 0, 1) := by decide +kernel
theorem dX7_create_105 : decode cX7_create 105 = .ok (.getfield 31, 3) := by decide +kernel
theorem dX7_create_108 : decode cX7_create 108 = .ok (.iload_n 1, 1) := by decide +kernel
theorem dX7_create_109 : decode cX7_create 109 = .ok (.iaload, 1) := by decide +kernel
theorem dX7_create_110 : decode cX7_create 110 = .ok (.invokestatic 116, 3) := by decide +kernel
theorem dX7_create_113 : decode cX7_create 113 = .ok (.iastore, 1) := by decide +kernel
theorem dX7_create_114 : decode cX7_create 114 = .ok (.iconst 0, 1) := by decide +kernel
theorem dX7_create_115 : decode cX7_create 115 = .ok (.istore 5, 2) := by decide +kernel
theorem dX7_create_117 : decode cX7_create 117 = .ok (.iload 5, 2) := by decide +kernel
theorem dX7_create_119 : decode cX7_create 119 = .ok (.iconst 5, 1) := by decide +kernel
theorem dX7_create_120 : decode cX7_create 120 = .ok (.if_icmp .ge 38, 3) := by decide +kernel
theorem dX7_create_123 : decode cX7_create 123 = .ok (.aload_n 0, 1) := by decide +kernel
theorem dX7_create_124 : decode cX7_create 124 = .ok (.getfield 11, 3) := by decide +kernel
theorem dX7_create_127 : decode cX7_create 127 = .ok (.iload_n 1, 1) := by decide +kernel
theorem dX7_create_128 : decode cX7_create 128 = .ok (.aaload, 1) := by decide +kernel
theorem dX7_create_129 : decode cX7_create 129 = .ok (.iload 5, 2) := by decide +kernel
theorem dX7_create_131 : decode cX7_create 131 = .ok (.aaload, 1) := by decide +kernel
theorem dX7_create_132 : decode cX7_create 132 = .ok (.aload_n 0, 1) := by decide +kernel
theorem dX7_create_133 : decode cX7_create 133 = .ok (.getfield 119, 3) := by decide +kernel
theorem dX7_create_136 : decode cX7_create 136 = .ok (.putfield 122, 3) := by decide +kernel
theorem dX7_create_139 : decode cX7_create 139 = .ok (.aload_n 0, 1) := by decide +kernel
theorem dX7_create_140 : decode cX7_create 140 = .ok (.getfield 11, 3) := by decide +kernel
theorem dX7_create_143 : decode cX7_create 143 = .ok (.iload_n 1, 1) := by decide +kernel
theorem dX7_create_144 : decode cX7_create 144 = .ok (.aaload, 1) := by decide +kernel
theorem dX7_create_145 : decode cX7_create 145 = .ok (.iload 5, 2) := by decide +kernel
theorem dX7_create_147 : decode cX7_create 147 = .ok (.aaload, 1) := by decide +kernel
theorem dX7_create_148 : decode cX7_create 148 = .ok (.iconst 0, 1) := by decide +kernel
theorem dX7_create_149 : decode cX7_create 149 = .ok (.putfield 92, 3) := by decide +kernel
theorem dX7_create_152 : decode cX7_create 152 = .ok (.iinc 5 1, 3) := by decide +kernel
theorem dX7_create_155 : decode cX7_create 155 = .ok (.goto (-38), 3) := by decide +kernel
theorem dX7_create_158 : decode cX7_create 158 = .ok (.aload_n 0, 1) := by decide +kernel
theorem dX7_create_159 : decode cX7_create 159 = .ok (.getfield 22, 3) := by decide +kernel
theorem dX7_create_162 : decode cX7_create 162 = .ok (.iload_n 1, 1) := by decide +kernel
theorem dX7_create_163 : decode cX7_create 163 = .ok (.iaload, 1) := by decide +kernel
theorem dX7_create_164 : decode cX7_create 164 = .ok (.ireturn, 1) := by decide +kernel
set_option maxRecDepth 20000 in
theorem ggX7_elect_X7_isThere : GoodIn wsX7_elect wsX7_isThere := goodIn_r _ [14, 15, 16, 17, 18, 13, 19, 49, 50, 51, 52, 53, 54, 55, 56, 57, 58, 59, 60, 61, 62, 63, 64, 65, 66] (by decide +kernel) (by decide +kernel)
set_option maxRecDepth 20000 in
theorem gX7_elect_X7_isThere : GoodIn wsX7_elect (wsV RX7 82 RX7 yX7_isThere wsX7_isThere) := goodIn_app (goodIn_of _ (by decide +kernel)) ggX7_elect_X7_isThere
set_option maxRecDepth 20000 in
theorem ggX7_elect_J6_numberOfTrailingZeros_0f7a4 : GoodIn wsX7_elect wsJ6_numberOfTrailingZeros_0f7a4 := goodIn_r _ [23, 24] (by decide +kernel) (by decide +kernel)
set_option maxRecDepth 20000 in
theorem gX7_elect_J6_numberOfTrailingZeros_0f7a4 : GoodIn wsX7_elect (va_wsS RX7 116 yJ6_numberOfTrailingZeros_0f7a4 wsJ6_numberOfTrailingZeros_0f7a4) := goodIn_app (goodIn_of _ (by decide +kernel)) ggX7_elect_J6_numberOfTrailingZeros_0f7a4
set_option maxRecDepth 20000 in
theorem ggX7_elect_X7_rise : GoodIn wsX7_elect wsX7_rise := goodIn_r _ [28, 29, 1, 30, 31, 32, 33, 34, 35, 36, 37, 13, 38, 4, 6, 39, 40, 41, 42, 43, 2, 17, 18, 19, 44, 45, 46, 47, 48, 7, 49, 50, 51, 52, 53, 54, 55, 56, 57, 58, 59, 60, 61, 62, 63, 64, 65, 66, 67, 68, 69, 70, 71, 72, 73] (by decide +kernel) (by decide +kernel)
set_option maxRecDepth 20000 in
theorem gX7_elect_X7_rise : GoodIn wsX7_elect (wsV RX7 125 RX7 yX7_rise wsX7_rise) := goodIn_app (goodIn_of _ (by decide +kernel)) ggX7_elect_X7_rise
theorem dX7_elect_0 : decode cX7_elect 0 = .ok (.aload_n 0, 1) := by decide +kernel
theorem dX7_elect_1 : decode cX7_elect 1 = .ok (.iload_n 1, 1) := by decide +kernel
theorem dX7_elect_2 : decode cX7_elect 2 = .ok (.invokevirtual 82, 3) := by decide +kernel
theorem dX7_elect_5 : decode cX7_elect 5 = .ok (.ifCond .ne 5, 3) := by decide +kernel
theorem dX7_elect_8 : decode cX7_elect 8 = .ok (.iconst (-1), 1) := by decide +kernel
theorem dX7_elect_9 : decode cX7_elect 9 = .ok (.ireturn, 1) := by decide +kernel
theorem dX7_elect_10 : decode cX7_elect 10 = .ok (.aload_n 0, 1) := by decide +kernel
theorem dX7_elect_11 : decode cX7_elect 11 = .ok (.getfield 31, 3) := by decide +kernel
theorem dX7_elect_14 : decode cX7_elect 14 = .ok (.iload_n 1, 1) := by decide +kernel
theorem dX7_elect_15 : decode cX7_elect 15 = .ok (.iaload, 1) := by decide +kernel
theorem dX7_elect_16 : decode cX7_elect 16 = .ok (.aload_n 0, 1) := by decide +kernel
theorem dX7_elect_17 : decode cX7_elect 17 = .ok (.getfield 61, 3) := by decide +kernel
theorem dX7_elect_20 : decode cX7_elect 20 = .ok (.iand, 1) := by decide +kernel
theorem dX7_elect_21 : decode cX7_elect 21 = .ok (.istore_n 3, 1) := by decide +kernel
theorem dX7_elect_22 : decode cX7_elect 22 = .ok (.iload_n 3, 1) := by decide +kernel
theorem dX7_elect_23 : decode cX7_elect 23 = .ok (.ifCond .ne 19, 3) := by decide +kernel
theorem dX7_elect_26 : decode cX7_elect 26 = .ok (.iload_n 2, 1) := by decide +kernel
theorem dX7_elect_27 : decode cX7_elect 27 = .ok (.ifCond .eq 15, 3) := by decide +kernel
theorem dX7_elect_30 : decode cX7_elect 30 = .ok (.aload_n 0, 1) := by decide +kernel
theorem dX7_elect_31 : decode cX7_elect 31 = .ok (.getfield 18, 3) := by decide +kernel
theorem dX7_elect_34 : decode cX7_elect 34 = .ok (.iload_n 1, 1) := by decide +kernel
theorem dX7_elect_35 : decode cX7_elect 35 = .ok (.iaload, 1) := by decide +kernel
theorem dX7_elect_36 : decode cX7_elect 36 = .ok (.aload_n 0, 1) := by decide +kernel
theorem dX7_elect_37 : decode cX7_elect 37 = .ok (.getfield 61, 3) := by decide +kernel
theorem dX7_elect_40 : decode cX7_elect 40 = .ok (.iand, 1) := by decide +kernel
theorem dX7_elect_41 : decode cX7_elect 41 = .ok (.istore_n 3, 1) := by decide +kernel
theorem dX7_elect_42 : decode cX7_elect 42 = .ok (.iload_n 3, 1) := by decide +kernel
theorem dX7_elect_43 : decode cX7_elect 43 = .ok (.ifCond .ne 6, 3) := by decide +kernel
theorem dX7_elect_46 : decode cX7_elect 46 = .ok (.bipush (-2), 2) := by decide +kernel
theorem dX7_elect_48 : decode cX7_elect 48 = .ok (.ireturn, 1) := by decide +kernel
theorem dX7_elect_49 : decode cX7_elect 49 = .ok (.iload_n 3, 1) := by decide +kernel
theorem dX7_elect_50 : decode cX7_elect 50 = .ok (.invokestatic 116, 3) := by decide +kernel
theorem dX7_elect_53 : decode cX7_elect 53 = .ok (.istore 4, 2) := by decide +kernel
theorem dX7_elect_55 : decode cX7_elect 55 = .ok (.aload_n 0, 1) := by decide +kernel
theorem dX7_elect_56 : decode cX7_elect 56 = .ok (.getfield 31, 3) := by decide +kernel
theorem dX7_elect_59 : decode cX7_elect 59 = .ok (.iload_n 1, 1) := by decide +kernel
theorem dX7_elect_60 : decode cX7_elect 60 = .ok (.iaload, 1) := by decide +kernel
theorem dX7_elect_61 : decode cX7_elect 61 = .ok (.iload 4, 2) := by decide +kernel
theorem dX7_elect_63 : decode cX7_elect 63 = .ok (.ishr, 1) := by decide +kernel
theorem dX7_elect_64 : decode cX7_elect 64 = .ok (.iconst 1, 1) := by decide +kernel
theorem dX7_elect_65 : decode cX7_elect 65 = .ok (.iand, 1) := by decide +kernel
theorem dX7_elect_66 : decode cX7_elect 66 = .ok (.ifCond .ne 13, 3) := by decide +kernel
theorem dX7_elect_69 : decode cX7_elect 69 = .ok (.aload_n 0, 1) := by decide +kernel
theorem dX7_elect_70 : decode cX7_elect 70 = .ok (.getfield 31, 3) := by decide +kernel
theorem dX7_elect_73 : decode cX7_elect 73 = .ok (.iload_n 1, 1) := by decide +kernel
theorem dX7_elect_74 : decode cX7_elect 74 = .ok (.iconst 1, 1) := by decide +kernel
theorem dX7_elect_75 : decode cX7_elect 75 = .ok (.iload 4, 2) := by decide +kernel
theorem dX7_elect_77 : decode cX7_elect 77 = .ok (.ishl, 1) := by decide +kernel
theorem dX7_elect_78 : decode cX7_elect 78 = .ok (.iastore, 1) := by decide +kernel
theorem dX7_elect_79 : decode cX7_elect 79 = .ok (.aload_n 0, 1) := by decide +kernel
theorem dX7_elect_80 : decode cX7_elect 80 = .ok (.getfield 22, 3) := by decide +kernel
theorem dX7_elect_83 : decode cX7_elect 83 = .ok (.iload_n 1, 1) := by decide +kernel
theorem dX7_elect_84 : decode cX7_elect 84 = .ok (.iload 4, 2) := by decide +kernel
theorem dX7_elect_86 : decode cX7_elect 86 = .ok (.iastore, 1) := by decide +kernel
theorem dX7_elect_87 : decode cX7_elect 87 = .ok (.aload_n 0, 1) := by decide +kernel
theorem dX7_elect_88 : decode cX7_elect 88 = .ok (.getfield 25, 3) := by decide +kernel
theorem dX7_elect_91 : decode cX7_elect 91 = .ok (.iload_n 1, 1) := by decide +kernel
theorem dX7_elect_92 : decode cX7_elect 92 = .ok (.dup2, 1) := by decide +kernel
theorem dX7_elect_93 : decode cX7_elect 93 = .ok (.iaload, 1) := by decide +kernel
theorem dX7_elect_94 : decode cX7_elect 94 = .ok (.iconst 1, 1) := by decide +kernel
theorem dX7_elect_95 : decode cX7_elect 95 = .ok (.iadd, 1) := by decide +kernel
theorem dX7_elect_96 : decode cX7_elect 96 = .ok (.iastore, 1) := by decide +kernel
theorem dX7_elect_97 : decode cX7_elect 97 = .ok (.iconst 0, 1) := by decide +kernel
theorem dX7_elect_98 : decode cX7_elect 98 = .ok (.istore 5, 2) := by decide +kernel
theorem dX7_elect_100 : decode cX7_elect 100 = .ok (.iload 5, 2) := by decide +kernel
theorem dX7_elect_102 : decode cX7_elect 102 = .ok (.iconst 5, 1) := by decide +kernel
theorem dX7_elect_103 : decode cX7_elect 103 = .ok (.if_icmp .ge 38, 3) := by decide +kernel
theorem dX7_elect_106 : decode cX7_elect 106 = .ok (.aload_n 0, 1) := by decide +kernel
theorem dX7_elect_107 : decode cX7_elect 107 = .ok (.getfield 11, 3) := by decide +kernel
theorem dX7_elect_110 : decode cX7_elect 110 = .ok (.iload_n 1, 1) := by decide +kernel
theorem dX7_elect_111 : decode cX7_elect 111 = .ok (.aaload, 1) := by decide +kernel
theorem dX7_elect_112 : decode cX7_elect 112 = .ok (.iload 5, 2) := by decide +kernel
theorem dX7_elect_114 : decode cX7_elect 114 = .ok (.aaload, 1) := by decide +kernel
theorem dX7_elect_115 : decode cX7_elect 115 = .ok (.iconst (-1), 1) := by decide +kernel
theorem dX7_elect_116 : decode cX7_elect 116 = .ok (.putfield 92, 3) := by decide +kernel
theorem dX7_elect_119 : decode cX7_elect 119 = .ok (.aload_n 0, 1) := by decide +kernel
theorem dX7_elect_120 : decode cX7_elect 120 = .ok (.getfield 11, 3) := by decide +kernel
theorem dX7_elect_123 : decode cX7_elect 123 = .ok (.iload_n 1, 1) := by decide +kernel
theorem dX7_elect_124 : decode cX7_elect 124 = .ok (.aaload, 1) := by decide +kernel
theorem dX7_elect_125 : decode cX7_elect 125 = .ok (.iload 5, 2) := by decide +kernel
theorem dX7_elect_127 : decode cX7_elect 127 = .ok (.aaload, 1) := by decide +kernel
theorem dX7_elect_128 : decode cX7_elect 128 = .ok (.aload_n 0, 1) := by decide +kernel
theorem dX7_elect_129 : decode cX7_elect 129 = .ok (.getfield 119, 3) := by decide +kernel
theorem dX7_elect_132 : decode cX7_elect 132 = .ok (.putfield 122, 3) := by decide +kernel
theorem dX7_elect_135 : decode cX7_elect 135 = .ok (.iinc 5 1, 3) := by decide +kernel
theorem dX7_elect_138 : decode cX7_elect 138 = .ok (.goto (-38), 3) := by decide +kernel
theorem dX7_elect_141 : decode cX7_elect 141 = .ok (.aload_n 0, 1) := by decide +kernel
theorem dX7_elect_142 : decode cX7_elect 142 = .ok (.iload_n 1, 1) := by decide +kernel
theorem dX7_elect_143 : decode cX7_elect 143 = .ok (.invokevirtual 125, 3) := by decide +kernel
theorem dX7_elect_146 : decode cX7_elect 146 = .ok (.iload 4, 2) := by decide +kernel
theorem dX7_elect_148 : decode cX7_elect 148 = .ok (.ireturn, 1) := by decide +kernel
set_option maxRecDepth 20000 in
theorem ggX7_register_X7_in : GoodIn wsX7_register wsX7_in := goodIn_r _ [9] (by decide +kernel) (by decide +kernel)
set_option maxRecDepth 20000 in
theorem gX7_register_X7_in : GoodIn wsX7_register (va_wsS RX7 76 yX7_in wsX7_in) := goodIn_app (goodIn_of _ (by decide +kernel)) ggX7_register_X7_in
theorem dX7_register_0 : decode cX7_register 0 = .ok (.iload_n 1, 1) := by decide +kernel
theorem dX7_register_1 : decode cX7_register 1 = .ok (.i2l, 1) := by decide +kernel
theorem dX7_register_2 : decode cX7_register 2 = .ok (.lconst 0, 1) := by decide +kernel
theorem dX7_register_3 : decode cX7_register 3 = .ok (.ldc2_w 129, 3) := by decide +kernel
theorem dX7_register_6 : decode cX7_register 6 = .ok (.invokestatic 76, 3) := by decide +kernel
theorem dX7_register_9 : decode cX7_register 9 = .ok (.ifCond .ne 5, 3) := by decide +kernel
theorem dX7_register_12 : decode cX7_register 12 = .ok (.iconst (-1), 1) := by decide +kernel
theorem dX7_register_13 : decode cX7_register 13 = .ok (.ireturn, 1) := by decide +kernel
theorem dX7_register_14 : decode cX7_register 14 = .ok (.aload_n 0, 1) := by decide +kernel
theorem dX7_register_15 : decode cX7_register 15 = .ok (.getfield 37, 3) := by decide +kernel
theorem dX7_register_18 : decode cX7_register 18 = .ok (.iload_n 1, 1) := by decide +kernel
theorem dX7_register_19 : decode cX7_register 19 = .ok (.iaload, 1) := by decide +kernel
theorem dX7_register_20 : decode cX7_register 20 = .ok (.iconst 1, 1) := by decide +kernel
theorem dX7_register_21 : decode cX7_register 21 = .ok (.if_icmp .ne 29, 3) := by decide +kernel
theorem dX7_register_24 : decode cX7_register 24 = .ok (.aload_n 0, 1) := by decide +kernel
theorem dX7_register_25 : decode cX7_register 25 = .ok (.getfield 37, 3) := by decide +kernel
theorem dX7_register_28 : decode cX7_register 28 = .ok (.iload_n 1, 1) := by decide +kernel
theorem dX7_register_29 : decode cX7_register 29 = .ok (.iconst 2, 1) := by decide +kernel
theorem dX7_register_30 : decode cX7_register 30 = .ok (.iastore, 1) := by decide +kernel
theorem dX7_register_31 : decode cX7_register 31 = .ok (.aload_n 0, 1) := by decide +kernel
theorem dX7_register_32 : decode cX7_register 32 = .ok (.getfield 43, 3) := by decide +kernel
theorem dX7_register_35 : decode cX7_register 35 = .ok (.iload_n 1, 1) := by decide +kernel
theorem dX7_register_36 : decode cX7_register 36 = .ok (.aload_n 0, 1) := by decide +kernel
theorem dX7_register_37 : decode cX7_register 37 = .ok (.getfield 34, 3) := by decide +kernel
theorem dX7_register_40 : decode cX7_register 40 = .ok (.iload_n 1, 1) := by decide +kernel
theorem dX7_register_41 : decode cX7_register 41 = .ok (.iaload, 1) := by decide +kernel
theorem dX7_register_42 : decode cX7_register 42 = .ok (.iastore, 1) := by decide +kernel
theorem dX7_register_43 : decode cX7_register 43 = .ok (.aload_n 0, 1) := by decide +kernel
theorem dX7_register_44 : decode cX7_register 44 = .ok (.getfield 46, 3) := by decide +kernel
theorem dX7_register_47 : decode cX7_register 47 = .ok (.iload_n 1, 1) := by decide +kernel
theorem dX7_register_48 : decode cX7_register 48 = .ok (.iconst 2, 1) := by decide +kernel
theorem dX7_register_49 : decode cX7_register 49 = .ok (.iastore, 1) := by decide +kernel
theorem dX7_register_50 : decode cX7_register 50 = .ok (.aload_n 0, 1) := by decide +kernel
theorem dX7_register_51 : decode cX7_register 51 = .ok (.getfield 34, 3) := by decide +kernel
theorem dX7_register_54 : decode cX7_register 54 = .ok (.iload_n 1, 1) := by decide +kernel
theorem dX7_register_55 : decode cX7_register 55 = .ok (.dup2, 1) := by decide +kernel
theorem dX7_register_56 : decode cX7_register 56 = .ok (.iaload, 1) := by decide +kernel
theorem dX7_register_57 : decode cX7_register 57 = .ok (.iconst 1, 1) := by decide +kernel
theorem dX7_register_58 : decode cX7_register 58 = .ok (.iadd, 1) := by decide +kernel
theorem dX7_register_59 : decode cX7_register 59 = .ok (.iastore, 1) := by decide +kernel
theorem dX7_register_60 : decode cX7_register 60 = .ok (.bipush 8, 2) := by decide +kernel
theorem dX7_register_62 : decode cX7_register 62 = .ok (.aload_n 0, 1) := by decide +kernel
theorem dX7_register_63 : decode cX7_register 63 = .ok (.getfield 34, 3) := by decide +kernel
theorem dX7_register_66 : decode cX7_register 66 = .ok (.iload_n 1, 1) := by decide +kernel
theorem dX7_register_67 : decode cX7_register 67 = .ok (.iaload, 1) := by decide +kernel
theorem dX7_register_68 : decode cX7_register 68 = .ok (.imul, 1) := by decide +kernel
theorem dX7_register_69 : decode cX7_register 69 = .ok (.iload_n 1, 1) := by decide +kernel
theorem dX7_register_70 : decode cX7_register 70 = .ok (.iadd, 1) := by decide +kernel
theorem dX7_register_71 : decode cX7_register 71 = .ok (.ireturn, 1) := by decide +kernel
theorem dX7_isHandle_0 : decode cX7_isHandle 0 = .ok (.iload_n 0, 1) := by decide +kernel
theorem dX7_isHandle_1 : decode cX7_isHandle 1 = .ok (.ifCond .lt 16, 3) := by decide +kernel
theorem dX7_isHandle_4 : decode cX7_isHandle 4 = .ok (.iload_n 0, 1) := by decide +kernel
theorem dX7_isHandle_5 : decode cX7_isHandle 5 = .ok (.bipush 8, 2) := by decide +kernel
theorem dX7_isHandle_7 : decode cX7_isHandle 7 = .ok (.irem, 1) := by decide +kernel
theorem dX7_isHandle_8 : decode cX7_isHandle 8 = .ok (.bipush 6, 2) := by decide +kernel
theorem dX7_isHandle_10 : decode cX7_isHandle 10 = .ok (.if_icmp .ge 7, 3) := by decide +kernel
theorem dX7_isHandle_13 : decode cX7_isHandle 13 = .ok (.iconst 1, 1) := by decide +kernel
theorem dX7_isHandle_14 : decode cX7_isHandle 14 = .ok (.goto 4, 3) := by decide +kernel
theorem dX7_isHandle_17 : decode cX7_isHandle 17 = .ok (.iconst 0, 1) := by decide +kernel
theorem dX7_isHandle_18 : decode cX7_isHandle 18 = .ok (.ireturn, 1) := by decide +kernel
set_option maxRecDepth 20000 in
theorem ggX7_produce_X7_isThere : GoodIn wsX7_produce wsX7_isThere := goodIn_r _ [13, 14, 15, 16, 17, 12, 18, 73, 74, 75, 76, 77, 78, 79, 80, 81, 82, 83, 84, 85, 86, 87, 88, 89, 90] (by decide +kernel) (by decide +kernel)
set_option maxRecDepth 20000 in
theorem gX7_produce_X7_isThere : GoodIn wsX7_produce (wsV RX7 82 RX7 yX7_isThere wsX7_isThere) := goodIn_app (goodIn_of _ (by decide +kernel)) ggX7_produce_X7_isThere
set_option maxRecDepth 20000 in
theorem ggX7_produce_X7_isHandle : GoodIn wsX7_produce wsX7_isHandle := goodIn_r _ [21] (by decide +kernel) (by decide +kernel)
set_option maxRecDepth 20000 in
theorem gX7_produce_X7_isHandle : GoodIn wsX7_produce (va_wsS RX7 131 yX7_isHandle wsX7_isHandle) := goodIn_app (goodIn_of _ (by decide +kernel)) ggX7_produce_X7_isHandle
set_option maxRecDepth 20000 in
theorem ggX7_produce_X7_own : GoodIn wsX7_produce wsX7_own := goodIn_r _ [25, 26, 27, 28, 29, 30, 12, 31, 32, 33, 16, 17, 18, 73, 74, 75, 76, 77, 78, 79, 80, 81, 82, 83, 84, 85, 86, 87, 88, 89, 90] (by decide +kernel) (by decide +kernel)
set_option maxRecDepth 20000 in
theorem gX7_produce_X7_own : GoodIn wsX7_produce (wsV RX7 95 RX7 yX7_own wsX7_own) := goodIn_app (goodIn_of _ (by decide +kernel)) ggX7_produce_X7_own
set_option maxRecDepth 20000 in
theorem ggX7_produce_J6_bitCount_0f7a4 : GoodIn wsX7_produce wsJ6_bitCount_0f7a4 := goodIn_r _ [37, 38, 39, 40] (by decide +kernel) (by decide +kernel)
set_option maxRecDepth 20000 in
theorem gX7_produce_J6_bitCount_0f7a4 : GoodIn wsX7_produce (va_wsS RX7 112 yJ6_bitCount_0f7a4 wsJ6_bitCount_0f7a4) := goodIn_app (goodIn_of _ (by decide +kernel)) ggX7_produce_J6_bitCount_0f7a4
set_option maxRecDepth 20000 in
theorem ggX7_produce_X6_get : GoodIn wsX7_produce wsX6_get := goodIn_r _ [45, 46, 47, 91, 92, 93, 94, 95, 96, 97] (by decide +kernel) (by decide +kernel)
set_option maxRecDepth 20000 in
theorem gX7_produce_X6_get : GoodIn wsX7_produce (wsV RX7 137 RX6 yX6_get wsX6_get) := goodIn_app (goodIn_of _ (by decide +kernel)) ggX7_produce_X6_get
set_option maxRecDepth 20000 in
theorem ggX7_produce_X6_many : GoodIn wsX7_produce wsX6_many := goodIn_r _ [51, 52, 47, 91, 92, 93, 94, 95, 96, 97] (by decide +kernel) (by decide +kernel)
set_option maxRecDepth 20000 in
theorem gX7_produce_X6_many : GoodIn wsX7_produce (wsV RX7 140 RX6 yX6_many wsX6_many) := goodIn_app (goodIn_of _ (by decide +kernel)) ggX7_produce_X6_many
set_option maxRecDepth 20000 in
theorem ggX7_produce_X6_add : GoodIn wsX7_produce wsX6_add := goodIn_r _ [56, 46, 52, 57, 49, 50, 44, 51, 47, 91, 92, 93, 94, 95, 96, 97] (by decide +kernel) (by decide +kernel)
set_option maxRecDepth 20000 in
theorem gX7_produce_X6_add : GoodIn wsX7_produce (wsV RX7 144 RX6 yX6_add wsX6_add) := goodIn_app (goodIn_of _ (by decide +kernel)) ggX7_produce_X6_add
set_option maxRecDepth 20000 in
theorem ggX7_produce_X7_rise : GoodIn wsX7_produce wsX7_rise := goodIn_r _ [61, 62, 3, 63, 64, 65, 66, 67, 22, 23, 24, 12, 25, 26, 27, 28, 29, 30, 31, 32, 33, 16, 17, 18, 68, 69, 70, 71, 6, 72, 73, 74, 75, 76, 77, 78, 79, 80, 81, 82, 83, 84, 85, 86, 87, 88, 89, 90, 91, 92, 93, 94, 95, 96, 97] (by decide +kernel) (by decide +kernel)
set_option maxRecDepth 20000 in
theorem gX7_produce_X7_rise : GoodIn wsX7_produce (wsV RX7 125 RX7 yX7_rise wsX7_rise) := goodIn_app (goodIn_of _ (by decide +kernel)) ggX7_produce_X7_rise
theorem dX7_produce_0 : decode cX7_produce 0 = .ok (.aload_n 0, 1) := by decide +kernel
theorem dX7_produce_1 : decode cX7_produce 1 = .ok (.iload_n 1, 1) := by decide +kernel
theorem dX7_produce_2 : decode cX7_produce 2 = .ok (.invokevirtual 82, 3) := by decide +kernel
theorem dX7_produce_5 : decode cX7_produce 5 = .ok (.ifCond .eq 15, 3) := by decide +kernel
theorem dX7_produce_8 : decode cX7_produce 8 = .ok (.iload_n 2, 1) := by decide +kernel
theorem dX7_produce_9 : decode cX7_produce 9 = .ok (.iconst (-1), 1) := by decide +kernel
theorem dX7_produce_10 : decode cX7_produce 10 = .ok (.if_icmp .eq 12, 3) := by decide +kernel
theorem dX7_produce_13 : decode cX7_produce 13 = .ok (.iload_n 2, 1) := by decide +kernel
theorem dX7_produce_14 : decode cX7_produce 14 = .ok (.invokestatic 131, 3) := by decide +kernel
theorem dX7_produce_17 : decode cX7_produce 17 = .ok (.ifCond .ne 5, 3) := by decide +kernel
theorem dX7_produce_20 : decode cX7_produce 20 = .ok (.iconst (-1), 1) := by decide +kernel
theorem dX7_produce_21 : decode cX7_produce 21 = .ok (.ireturn, 1) := by decide +kernel
theorem dX7_produce_22 : decode cX7_produce 22 = .ok (.aload_n 0, 1) := by decide +kernel
theorem dX7_produce_23 : decode cX7_produce 23 = .ok (.iload_n 1, 1) := by decide +kernel
theorem dX7_produce_24 : decode cX7_produce 24 = .ok (.invokevirtual 95, 3) := by decide +kernel
theorem dX7_produce_27 : decode cX7_produce 27 = .ok (.astore 7, 2) := by decide +kernel
theorem dX7_produce_29 : decode cX7_produce 29 = .ok (.aload 7, 2) := by decide +kernel
theorem dX7_produce_31 : decode cX7_produce 31 = .ok (.ifnonnull 6, 3) := by decide +kernel
theorem dX7_produce_34 : decode cX7_produce 34 = .ok (.bipush (-2), 2) := by decide +kernel
theorem dX7_produce_36 : decode cX7_produce 36 = .ok (.ireturn, 1) := by decide +kernel
theorem dX7_produce_37 : decode cX7_produce 37 = .ok (.iload_n 2, 1) := by decide +kernel
theorem dX7_produce_38 : decode cX7_produce 38 = .ok (.ifCond .ge 7, 3) := by decide +kernel
theorem dX7_produce_41 : decode cX7_produce 41 = .ok (.iconst (-1), 1) := by decide +kernel
theorem dX7_produce_42 : decode cX7_produce 42 = .ok (.goto 7, 3) := by decide +kernel
theorem dX7_produce_45 : decode cX7_produce 45 = .ok (.iload_n 2, 1) := by decide +kernel
theorem dX7_produce_46 : decode cX7_produce 46 = .ok (.bipush 8, 2) := by decide +kernel
theorem dX7_produce_48 : decode cX7_produce 48 = .ok (.irem, 1) := by decide +kernel
theorem dX7_produce_49 : decode cX7_produce 49 = .ok (.istore 8, 2) := by decide +kernel
theorem dX7_produce_51 : decode cX7_produce 51 = .ok (.iload_n 2, 1) := by decide +kernel
theorem dX7_produce_52 : decode cX7_produce 52 = .ok (.ifCond .ge 7, 3) := by decide +kernel
theorem dX7_produce_55 : decode cX7_produce 55 = .ok (.iconst (-1), 1) := by decide +kernel
theorem dX7_produce_56 : decode cX7_produce 56 = .ok (.goto 7, 3) := by decide +kernel
theorem dX7_produce_59 : decode cX7_produce 59 = .ok (.iload_n 2, 1) := by decide +kernel
theorem dX7_produce_60 : decode cX7_produce 60 = .ok (.bipush 8, 2) := by decide +kernel
theorem dX7_produce_62 : decode cX7_produce 62 = .ok (.idiv, 1) := by decide +kernel
theorem dX7_produce_63 : decode cX7_produce 63 = .ok (.istore 9, 2) := by decide +kernel
theorem dX7_produce_65 : decode cX7_produce 65 = .ok (.iload 8, 2) := by decide +kernel
theorem dX7_produce_67 : decode cX7_produce 67 = .ok (.ifCond .lt 29, 3) := by decide +kernel
theorem dX7_produce_70 : decode cX7_produce 70 = .ok (.aload_n 0, 1) := by decide +kernel
theorem dX7_produce_71 : decode cX7_produce 71 = .ok (.getfield 34, 3) := by decide +kernel
theorem dX7_produce_74 : decode cX7_produce 74 = .ok (.iload 8, 2) := by decide +kernel
theorem dX7_produce_76 : decode cX7_produce 76 = .ok (.iaload, 1) := by decide +kernel
theorem dX7_produce_77 : decode cX7_produce 77 = .ok (.iload 9, 2) := by decide +kernel
theorem dX7_produce_79 : decode cX7_produce 79 = .ok (.if_icmp .ne 14, 3) := by decide +kernel
theorem dX7_produce_82 : decode cX7_produce 82 = .ok (.aload_n 0, 1) := by decide +kernel
theorem dX7_produce_83 : decode cX7_produce 83 = .ok (.getfield 37, 3) := by decide +kernel
theorem dX7_produce_86 : decode cX7_produce 86 = .ok (.iload 8, 2) := by decide +kernel
theorem dX7_produce_88 : decode cX7_produce 88 = .ok (.iaload, 1) := by decide +kernel
theorem dX7_produce_89 : decode cX7_produce 89 = .ok (.iconst 2, 1) := by decide +kernel
theorem dX7_produce_90 : decode cX7_produce 90 = .ok (.if_icmp .ne 6, 3) := by decide +kernel
theorem dX7_produce_93 : decode cX7_produce 93 = .ok (.bipush (-4), 2) := by decide +kernel
theorem dX7_produce_95 : decode cX7_produce 95 = .ok (.ireturn, 1) := by decide +kernel
theorem dX7_produce_96 : decode cX7_produce 96 = .ok (.iload 6, 2) := by decide +kernel
theorem dX7_produce_98 : decode cX7_produce 98 = .ok (.ifCond .eq 24, 3) := by decide +kernel
theorem dX7_produce_101 : decode cX7_produce 101 = .ok (.aload_n 0, 1) := by decide +kernel
theorem dX7_produce_102 : decode cX7_produce 102 = .ok (.getfield 31, 3) := by decide +kernel
theorem dX7_produce_105 : decode cX7_produce 105 = .ok (.iload_n 1, 1) := by decide +kernel
theorem dX7_produce_106 : decode cX7_produce 106 = .ok (.iaload, 1) := by decide +kernel
theorem dX7_produce_107 : decode cX7_produce 107 = .ok (.invokestatic 112, 3) := by decide +kernel
theorem dX7_produce_110 : decode cX7_produce 110 = .ok (.aload_n 0, 1) := by decide +kernel
theorem dX7_produce_111 : decode cX7_produce 111 = .ok (.getfield 28, 3) := by decide +kernel
theorem dX7_produce_114 : decode cX7_produce 114 = .ok (.iload_n 1, 1) := by decide +kernel
theorem dX7_produce_115 : decode cX7_produce 115 = .ok (.iaload, 1) := by decide +kernel
theorem dX7_produce_116 : decode cX7_produce 116 = .ok (.if_icmp .ge 6, 3) := by decide +kernel
theorem dX7_produce_119 : decode cX7_produce 119 = .ok (.bipush (-5), 2) := by decide +kernel
theorem dX7_produce_121 : decode cX7_produce 121 = .ok (.ireturn, 1) := by decide +kernel
theorem dX7_produce_122 : decode cX7_produce 122 = .ok (.iload 8, 2) := by decide +kernel
theorem dX7_produce_124 : decode cX7_produce 124 = .ok (.ifCond .lt 117, 3) := by decide +kernel
theorem dX7_produce_127 : decode cX7_produce 127 = .ok (.iconst (-1), 1) := by decide +kernel
theorem dX7_produce_128 : decode cX7_produce 128 = .ok (.istore 10, 2) := by decide +kernel
theorem dX7_produce_130 : decode cX7_produce 130 = .ok (.aload 7, 2) := by decide +kernel
theorem dX7_produce_132 : decode cX7_produce 132 = .ok (.getfield 134, 3) := by decide +kernel
theorem dX7_produce_135 : decode cX7_produce 135 = .ok (.istore 11, 2) := by decide +kernel
theorem dX7_produce_137 : decode cX7_produce 137 = .ok (.iload 11, 2) := by decide +kernel
theorem dX7_produce_139 : decode cX7_produce 139 = .ok (.aload 7, 2) := by decide +kernel
theorem dX7_produce_141 : decode cX7_produce 141 = .ok (.getfield 89, 3) := by decide +kernel
theorem dX7_produce_144 : decode cX7_produce 144 = .ok (.if_icmp .ge 68, 3) := by decide +kernel
theorem dX7_produce_147 : decode cX7_produce 147 = .ok (.aload 7, 2) := by decide +kernel
theorem dX7_produce_149 : decode cX7_produce 149 = .ok (.iload 11, 2) := by decide +kernel
theorem dX7_produce_151 : decode cX7_produce 151 = .ok (.iconst 1, 1) := by decide +kernel
theorem dX7_produce_152 : decode cX7_produce 152 = .ok (.invokevirtual 137, 3) := by decide +kernel
theorem dX7_produce_155 : decode cX7_produce 155 = .ok (.ifCond .ne 51, 3) := by decide +kernel
theorem dX7_produce_158 : decode cX7_produce 158 = .ok (.aload 7, 2) := by decide +kernel
theorem dX7_produce_160 : decode cX7_produce 160 = .ok (.iload 11, 2) := by decide +kernel
theorem dX7_produce_162 : decode cX7_produce 162 = .ok (.iconst 2, 1) := by decide +kernel
theorem dX7_produce_163 : decode cX7_produce 163 = .ok (.invokevirtual 137, 3) := by decide +kernel
theorem dX7_produce_166 : decode cX7_produce 166 = .ok (.iload 8, 2) := by decide +kernel
theorem dX7_produce_168 : decode cX7_produce 168 = .ok (.if_icmp .ne 38, 3) := by decide +kernel
theorem dX7_produce_171 : decode cX7_produce 171 = .ok (.aload 7, 2) := by decide +kernel
theorem dX7_produce_173 : decode cX7_produce 173 = .ok (.iload 11, 2) := by decide +kernel
theorem dX7_produce_175 : decode cX7_produce 175 = .ok (.iconst 3, 1) := by decide +kernel
theorem dX7_produce_176 : decode cX7_produce 176 = .ok (.invokevirtual 137, 3) := by decide +kernel
theorem dX7_produce_179 : decode cX7_produce 179 = .ok (.iload 9, 2) := by decide +kernel
theorem dX7_produce_181 : decode cX7_produce 181 = .ok (.if_icmp .eq 6, 3) := by decide +kernel
theorem dX7_produce_184 : decode cX7_produce 184 = .ok (.goto 22, 3) := by decide +kernel
theorem dX7_produce_187 : decode cX7_produce 187 = .ok (.aload 7, 2) := by decide +kernel
theorem dX7_produce_189 : decode cX7_produce 189 = .ok (.iload 11, 2) := by decide +kernel
theorem dX7_produce_191 : decode cX7_produce 191 = .ok (.iconst 4, 1) := by decide +kernel
theorem dX7_produce_192 : decode cX7_produce 192 = .ok (.invokevirtual 137, 3) := by decide +kernel
theorem dX7_produce_195 : decode cX7_produce 195 = .ok (.iload_n 3, 1) := by decide +kernel
theorem dX7_produce_196 : decode cX7_produce 196 = .ok (.if_icmp .ne 6, 3) := by decide +kernel
theorem dX7_produce_199 : decode cX7_produce 199 = .ok (.iload 11, 2) := by decide +kernel
theorem dX7_produce_201 : decode cX7_produce 201 = .ok (.ireturn, 1) := by decide +kernel
theorem dX7_produce_202 : decode cX7_produce 202 = .ok (.iload 11, 2) := by decide +kernel
theorem dX7_produce_204 : decode cX7_produce 204 = .ok (.istore 10, 2) := by decide +kernel
theorem dX7_produce_206 : decode cX7_produce 206 = .ok (.iinc 11 1, 3) := by decide +kernel
theorem dX7_produce_209 : decode cX7_produce 209 = .ok (.goto (-72), 3) := by decide +kernel
theorem dX7_produce_212 : decode cX7_produce 212 = .ok (.iload 10, 2) := by decide +kernel
theorem dX7_produce_214 : decode cX7_produce 214 = .ok (.ifCond .ge 10, 3) := by decide +kernel
theorem dX7_produce_217 : decode cX7_produce 217 = .ok (.iload_n 3, 1) := by decide +kernel
theorem dX7_produce_218 : decode cX7_produce 218 = .ok (.ifCond .eq 23, 3) := by decide +kernel
theorem dX7_produce_221 : decode cX7_produce 221 = .ok (.goto 17, 3) := by decide +kernel
theorem dX7_produce_224 : decode cX7_produce 224 = .ok (.iload_n 3, 1) := by decide +kernel
theorem dX7_produce_225 : decode cX7_produce 225 = .ok (.aload 7, 2) := by decide +kernel
theorem dX7_produce_227 : decode cX7_produce 227 = .ok (.iload 10, 2) := by decide +kernel
theorem dX7_produce_229 : decode cX7_produce 229 = .ok (.iconst 4, 1) := by decide +kernel
theorem dX7_produce_230 : decode cX7_produce 230 = .ok (.invokevirtual 137, 3) := by decide +kernel
theorem dX7_produce_233 : decode cX7_produce 233 = .ok (.iconst 1, 1) := by decide +kernel
theorem dX7_produce_234 : decode cX7_produce 234 = .ok (.iadd, 1) := by decide +kernel
theorem dX7_produce_235 : decode cX7_produce 235 = .ok (.if_icmp .eq 6, 3) := by decide +kernel
theorem dX7_produce_238 : decode cX7_produce 238 = .ok (.bipush (-6), 2) := by decide +kernel
theorem dX7_produce_240 : decode cX7_produce 240 = .ok (.ireturn, 1) := by decide +kernel
theorem dX7_produce_241 : decode cX7_produce 241 = .ok (.aload 7, 2) := by decide +kernel
theorem dX7_produce_243 : decode cX7_produce 243 = .ok (.invokevirtual 140, 3) := by decide +kernel
theorem dX7_produce_246 : decode cX7_produce 246 = .ok (.bipush 60, 2) := by decide +kernel
theorem dX7_produce_248 : decode cX7_produce 248 = .ok (.if_icmp .ne 6, 3) := by decide +kernel
theorem dX7_produce_251 : decode cX7_produce 251 = .ok (.bipush (-3), 2) := by decide +kernel
theorem dX7_produce_253 : decode cX7_produce 253 = .ok (.ireturn, 1) := by decide +kernel
theorem dX7_produce_254 : decode cX7_produce 254 = .ok (.iload 8, 2) := by decide +kernel
theorem dX7_produce_256 : decode cX7_produce 256 = .ok (.ifCond .lt 18, 3) := by decide +kernel
theorem dX7_produce_259 : decode cX7_produce 259 = .ok (.aload_n 0, 1) := by decide +kernel
theorem dX7_produce_260 : decode cX7_produce 260 = .ok (.getfield 37, 3) := by decide +kernel
theorem dX7_produce_263 : decode cX7_produce 263 = .ok (.iload 8, 2) := by decide +kernel
theorem dX7_produce_265 : decode cX7_produce 265 = .ok (.iaload, 1) := by decide +kernel
theorem dX7_produce_266 : decode cX7_produce 266 = .ok (.iconst 1, 1) := by decide +kernel
theorem dX7_produce_267 : decode cX7_produce 267 = .ok (.if_icmp .ne 7, 3) := by decide +kernel
theorem dX7_produce_270 : decode cX7_produce 270 = .ok (.iconst 1, 1) := by decide +kernel
theorem dX7_produce_271 : decode cX7_produce 271 = .ok (.goto 4, 3) := by decide +kernel
theorem dX7_produce_274 : decode cX7_produce 274 = .ok (.iconst 0, 1) := by decide +kernel
theorem dX7_produce_275 : decode cX7_produce 275 = .ok (.istore 10, 2) := by decide +kernel
theorem dX7_produce_277 : decode cX7_produce 277 = .ok (.aload 7, 2) := by decide +kernel
theorem dX7_produce_279 : decode cX7_produce 279 = .ok (.aload_n 0, 1) := by decide +kernel
theorem dX7_produce_280 : decode cX7_produce 280 = .ok (.getfield 25, 3) := by decide +kernel
theorem dX7_produce_283 : decode cX7_produce 283 = .ok (.iload_n 1, 1) := by decide +kernel
theorem dX7_produce_284 : decode cX7_produce 284 = .ok (.iaload, 1) := by decide +kernel
theorem dX7_produce_285 : decode cX7_produce 285 = .ok (.iconst 0, 1) := by decide +kernel
theorem dX7_produce_286 : decode cX7_produce 286 = .ok (.iload 8, 2) := by decide +kernel
theorem dX7_produce_288 : decode cX7_produce 288 = .ok (.iload 9, 2) := by decide +kernel
theorem dX7_produce_290 : decode cX7_produce 290 = .ok (.iload 8, 2) := by decide +kernel
theorem dX7_produce_292 : decode cX7_produce 292 = .ok (.ifCond .ge 7, 3) := by decide +kernel
theorem dX7_produce_295 : decode cX7_produce 295 = .ok (.iconst (-1), 1) := by decide +kernel
theorem dX7_produce_296 : decode cX7_produce 296 = .ok (.goto 4, 3) := by decide +kernel
theorem dX7_produce_299 : decode cX7_produce 299 = .ok (.iload_n 3, 1) := by decide +kernel
theorem dX7_produce_300 : decode cX7_produce 300 = .ok (.iload 4, 2) := by decide +kernel
theorem dX7_produce_302 : decode cX7_produce 302 = .ok (.iload 5, 2) := by decide +kernel
theorem dX7_produce_304 : decode cX7_produce 304 = .ok (.iload 10, 2) := by decide +kernel
theorem dX7_produce_306 : decode cX7_produce 306 = .ok (.ifCond .eq 7, 3) := by decide +kernel
theorem dX7_produce_309 : decode cX7_produce 309 = .ok (.iconst 1, 1) := by decide +kernel
theorem dX7_produce_310 : decode cX7_produce 310 = .ok (.goto 4, 3) := by decide +kernel
theorem dX7_produce_313 : decode cX7_produce 313 = .ok (.iconst 0, 1) := by decide +kernel
theorem dX7_produce_314 : decode cX7_produce 314 = .ok (.invokevirtual 144, 3) := by decide +kernel
theorem dX7_produce_317 : decode cX7_produce 317 = .ok (.iload 10, 2) := by decide +kernel
theorem dX7_produce_319 : decode cX7_produce 319 = .ok (.ifCond .eq 16, 3) := by decide +kernel
theorem dX7_produce_322 : decode cX7_produce 322 = .ok (.aload_n 0, 1) := by decide +kernel
theorem dX7_produce_323 : decode cX7_produce 323 = .ok (.getfield 40, 3) := by decide +kernel
theorem dX7_produce_326 : decode cX7_produce 326 = .ok (.iload 8, 2) := by decide +kernel
theorem dX7_produce_328 : decode cX7_produce 328 = .ok (.dup2, 1) := by decide +kernel
theorem dX7_produce_329 : decode cX7_produce 329 = .ok (.iaload, 1) := by decide +kernel
theorem dX7_produce_330 : decode cX7_produce 330 = .ok (.iconst 1, 1) := by decide +kernel
theorem dX7_produce_331 : decode cX7_produce 331 = .ok (.iload_n 1, 1) := by decide +kernel
theorem dX7_produce_332 : decode cX7_produce 332 = .ok (.ishl, 1) := by decide +kernel
theorem dX7_produce_333 : decode cX7_produce 333 = .ok (.ior, 1) := by decide +kernel
theorem dX7_produce_334 : decode cX7_produce 334 = .ok (.iastore, 1) := by decide +kernel
theorem dX7_produce_335 : decode cX7_produce 335 = .ok (.aload_n 0, 1) := by decide +kernel
theorem dX7_produce_336 : decode cX7_produce 336 = .ok (.iload_n 1, 1) := by decide +kernel
theorem dX7_produce_337 : decode cX7_produce 337 = .ok (.invokevirtual 125, 3) := by decide +kernel
theorem dX7_produce_340 : decode cX7_produce 340 = .ok (.aload 7, 2) := by decide +kernel
theorem dX7_produce_342 : decode cX7_produce 342 = .ok (.getfield 89, 3) := by decide +kernel
theorem dX7_produce_345 : decode cX7_produce 345 = .ok (.iconst 1, 1) := by decide +kernel
theorem dX7_produce_346 : decode cX7_produce 346 = .ok (.isub, 1) := by decide +kernel
theorem dX7_produce_347 : decode cX7_produce 347 = .ok (.ireturn, 1) := by decide +kernel
set_option maxRecDepth 20000 in
theorem ggX7_safe_X7_isThere : GoodIn wsX7_safe wsX7_isThere := goodIn_r _ [6, 7, 8, 9, 10, 5, 11, 31, 32, 33, 34, 35, 36, 37, 38, 39, 40, 41, 42, 43, 44, 45, 46, 47, 48] (by decide +kernel) (by decide +kernel)
set_option maxRecDepth 20000 in
theorem gX7_safe_X7_isThere : GoodIn wsX7_safe (wsV RX7 82 RX7 yX7_isThere wsX7_isThere) := goodIn_app (goodIn_of _ (by decide +kernel)) ggX7_safe_X7_isThere
set_option maxRecDepth 20000 in
theorem ggX7_safe_X7_own : GoodIn wsX7_safe wsX7_own := goodIn_r _ [15, 16, 17, 18, 19, 20, 5, 21, 22, 23, 9, 10, 11, 31, 32, 33, 34, 35, 36, 37, 38, 39, 40, 41, 42, 43, 44, 45, 46, 47, 48] (by decide +kernel) (by decide +kernel)
set_option maxRecDepth 20000 in
theorem gX7_safe_X7_own : GoodIn wsX7_safe (wsV RX7 95 RX7 yX7_own wsX7_own) := goodIn_app (goodIn_of _ (by decide +kernel)) ggX7_safe_X7_own
theorem dX7_safe_0 : decode cX7_safe 0 = .ok (.aload_n 0, 1) := by decide +kernel
theorem dX7_safe_1 : decode cX7_safe 1 = .ok (.iload_n 1, 1) := by decide +kernel
theorem dX7_safe_2 : decode cX7_safe 2 = .ok (.invokevirtual 82, 3) := by decide +kernel
theorem dX7_safe_5 : decode cX7_safe 5 = .ok (.ifCond .ne 5, 3) := by decide +kernel
theorem dX7_safe_8 : decode cX7_safe 8 = .ok (.iconst (-1), 1) := by decide +kernel
theorem dX7_safe_9 : decode cX7_safe 9 = .ok (.ireturn, 1) := by decide +kernel
theorem dX7_safe_10 : decode cX7_safe 10 = .ok (.aload_n 0, 1) := by decide +kernel
theorem dX7_safe_11 : decode cX7_safe 11 = .ok (.iload_n 1, 1) := by decide +kernel
theorem dX7_safe_12 : decode cX7_safe 12 = .ok (.invokevirtual 95, 3) := by decide +kernel
theorem dX7_safe_15 : decode cX7_safe 15 = .ok (.astore_n 3, 1) := by decide +kernel
theorem dX7_safe_16 : decode cX7_safe 16 = .ok (.aload_n 3, 1) := by decide +kernel
theorem dX7_safe_17 : decode cX7_safe 17 = .ok (.ifnonnull 6, 3) := by decide +kernel
theorem dX7_safe_20 : decode cX7_safe 20 = .ok (.bipush (-2), 2) := by decide +kernel
theorem dX7_safe_22 : decode cX7_safe 22 = .ok (.ireturn, 1) := by decide +kernel
theorem dX7_safe_23 : decode cX7_safe 23 = .ok (.iload_n 2, 1) := by decide +kernel
theorem dX7_safe_24 : decode cX7_safe 24 = .ok (.aload_n 3, 1) := by decide +kernel
theorem dX7_safe_25 : decode cX7_safe 25 = .ok (.getfield 109, 3) := by decide +kernel
theorem dX7_safe_28 : decode cX7_safe 28 = .ok (.if_icmp .ge 7, 3) := by decide +kernel
theorem dX7_safe_31 : decode cX7_safe 31 = .ok (.iconst 1, 1) := by decide +kernel
theorem dX7_safe_32 : decode cX7_safe 32 = .ok (.goto 4, 3) := by decide +kernel
theorem dX7_safe_35 : decode cX7_safe 35 = .ok (.iconst 0, 1) := by decide +kernel
theorem dX7_safe_36 : decode cX7_safe 36 = .ok (.ireturn, 1) := by decide +kernel
set_option maxRecDepth 20000 in
theorem ggX7_follow_X7_isReplica : GoodIn wsX7_follow wsX7_isReplica := goodIn_r _ [22, 23, 24, 25, 26, 27, 21, 28, 29, 30, 31, 32, 33, 76, 77, 78, 79, 80, 81, 82, 83, 84, 85, 86, 87, 88, 89, 90, 91, 92, 93] (by decide +kernel) (by decide +kernel)
set_option maxRecDepth 20000 in
theorem gX7_follow_X7_isReplica : GoodIn wsX7_follow (wsV RX7 148 RX7 yX7_isReplica wsX7_isReplica) := goodIn_app (goodIn_of _ (by decide +kernel)) ggX7_follow_X7_isReplica
set_option maxRecDepth 20000 in
theorem ggX7_follow_X7_isUp : GoodIn wsX7_follow wsX7_isUp := goodIn_r _ [37, 23, 38, 31, 32, 21, 33, 76, 77, 78, 79, 80, 81, 82, 83, 84, 85, 86, 87, 88, 89, 90, 91, 92, 93] (by decide +kernel) (by decide +kernel)
set_option maxRecDepth 20000 in
theorem gX7_follow_X7_isUp : GoodIn wsX7_follow (wsV RX7 86 RX7 yX7_isUp wsX7_isUp) := goodIn_app (goodIn_of _ (by decide +kernel)) ggX7_follow_X7_isUp
set_option maxRecDepth 20000 in
theorem ggX7_follow_X7_own : GoodIn wsX7_follow wsX7_own := goodIn_r _ [42, 1, 2, 34, 35, 36, 21, 37, 23, 38, 31, 32, 33, 76, 77, 78, 79, 80, 81, 82, 83, 84, 85, 86, 87, 88, 89, 90, 91, 92, 93] (by decide +kernel) (by decide +kernel)
set_option maxRecDepth 20000 in
theorem gX7_follow_X7_own : GoodIn wsX7_follow (wsV RX7 95 RX7 yX7_own wsX7_own) := goodIn_app (goodIn_of _ (by decide +kernel)) ggX7_follow_X7_own
set_option maxRecDepth 20000 in
theorem ggX7_follow_X6_from : GoodIn wsX7_follow wsX6_from := goodIn_r _ [47, 48, 49, 50, 51, 52, 53, 54, 94, 95, 96, 97, 98, 99, 100] (by decide +kernel) (by decide +kernel)
set_option maxRecDepth 20000 in
theorem gX7_follow_X6_from : GoodIn wsX7_follow (wsV RX7 152 RX6 yX6_from wsX6_from) := goodIn_app (goodIn_of _ (by decide +kernel)) ggX7_follow_X6_from
set_option maxRecDepth 20000 in
theorem ggX7_follow_X6_get : GoodIn wsX7_follow wsX6_get := goodIn_r _ [58, 50, 48, 94, 95, 96, 97, 98, 99, 100] (by decide +kernel) (by decide +kernel)
set_option maxRecDepth 20000 in
theorem gX7_follow_X6_get : GoodIn wsX7_follow (wsV RX7 137 RX6 yX6_get wsX6_get) := goodIn_app (goodIn_of _ (by decide +kernel)) ggX7_follow_X6_get
set_option maxRecDepth 20000 in
theorem ggX7_follow_X7_rise : GoodIn wsX7_follow wsX7_rise := goodIn_r _ [62, 63, 17, 10, 11, 7, 12, 16, 39, 40, 41, 21, 42, 1, 2, 34, 35, 36, 37, 23, 38, 31, 32, 33, 64, 65, 66, 67, 3, 13, 76, 77, 78, 79, 80, 81, 82, 83, 84, 85, 86, 87, 88, 89, 90, 91, 92, 93, 94, 95, 96, 97, 98, 99, 100] (by decide +kernel) (by decide +kernel)
set_option maxRecDepth 20000 in
theorem gX7_follow_X7_rise : GoodIn wsX7_follow (wsV RX7 125 RX7 yX7_rise wsX7_rise) := goodIn_app (goodIn_of _ (by decide +kernel)) ggX7_follow_X7_rise
set_option maxRecDepth 20000 in
theorem ggX7_follow_X6_take : GoodIn wsX7_follow wsX6_take := goodIn_r _ [71, 50, 48, 51, 52, 53, 54, 49, 72, 73, 74, 46, 75, 94, 95, 96, 97, 98, 99, 100] (by decide +kernel) (by decide +kernel)
set_option maxRecDepth 20000 in
theorem gX7_follow_X6_take : GoodIn wsX7_follow (wsV RX7 161 RX6 yX6_take wsX6_take) := goodIn_app (goodIn_of _ (by decide +kernel)) ggX7_follow_X6_take
theorem dX7_follow_0 : decode cX7_follow 0 = .ok (.aload_n 0, 1) := by decide +kernel
theorem dX7_follow_1 : decode cX7_follow 1 = .ok (.iload_n 1, 1) := by decide +kernel
theorem dX7_follow_2 : decode cX7_follow 2 = .ok (.iload_n 2, 1) := by decide +kernel
theorem dX7_follow_3 : decode cX7_follow 3 = .ok (.invokevirtual 148, 3) := by decide +kernel
theorem dX7_follow_6 : decode cX7_follow 6 = .ok (.ifCond .eq 21, 3) := by decide +kernel
theorem dX7_follow_9 : decode cX7_follow 9 = .ok (.aload_n 0, 1) := by decide +kernel
theorem dX7_follow_10 : decode cX7_follow 10 = .ok (.iload_n 1, 1) := by decide +kernel
theorem dX7_follow_11 : decode cX7_follow 11 = .ok (.invokevirtual 86, 3) := by decide +kernel
theorem dX7_follow_14 : decode cX7_follow 14 = .ok (.ifCond .eq 13, 3) := by decide +kernel
theorem dX7_follow_17 : decode cX7_follow 17 = .ok (.aload_n 0, 1) := by decide +kernel
theorem dX7_follow_18 : decode cX7_follow 18 = .ok (.getfield 22, 3) := by decide +kernel
theorem dX7_follow_21 : decode cX7_follow 21 = .ok (.iload_n 2, 1) := by decide +kernel
theorem dX7_follow_22 : decode cX7_follow 22 = .ok (.iaload, 1) := by decide +kernel
theorem dX7_follow_23 : decode cX7_follow 23 = .ok (.iload_n 1, 1) := by decide +kernel
theorem dX7_follow_24 : decode cX7_follow 24 = .ok (.if_icmp .ne 5, 3) := by decide +kernel
theorem dX7_follow_27 : decode cX7_follow 27 = .ok (.iconst (-1), 1) := by decide +kernel
theorem dX7_follow_28 : decode cX7_follow 28 = .ok (.ireturn, 1) := by decide +kernel
theorem dX7_follow_29 : decode cX7_follow 29 = .ok (.aload_n 0, 1) := by decide +kernel
theorem dX7_follow_30 : decode cX7_follow 30 = .ok (.iload_n 2, 1) := by decide +kernel
theorem dX7_follow_31 : decode cX7_follow 31 = .ok (.invokevirtual 95, 3) := by decide +kernel
theorem dX7_follow_34 : decode cX7_follow 34 = .ok (.astore_n 3, 1) := by decide +kernel
theorem dX7_follow_35 : decode cX7_follow 35 = .ok (.aload_n 0, 1) := by decide +kernel
theorem dX7_follow_36 : decode cX7_follow 36 = .ok (.getfield 11, 3) := by decide +kernel
theorem dX7_follow_39 : decode cX7_follow 39 = .ok (.iload_n 2, 1) := by decide +kernel
theorem dX7_follow_40 : decode cX7_follow 40 = .ok (.aaload, 1) := by decide +kernel
theorem dX7_follow_41 : decode cX7_follow 41 = .ok (.iload_n 1, 1) := by decide +kernel
theorem dX7_follow_42 : decode cX7_follow 42 = .ok (.aaload, 1) := by decide +kernel
theorem dX7_follow_43 : decode cX7_follow 43 = .ok (.astore 4, 2) := by decide +kernel
theorem dX7_follow_45 : decode cX7_follow 45 = .ok (.aload_n 3, 1) := by decide +kernel
theorem dX7_follow_46 : decode cX7_follow 46 = .ok (.ifnonnull 6, 3) := by decide +kernel
theorem dX7_follow_49 : decode cX7_follow 49 = .ok (.bipush (-2), 2) := by decide +kernel
theorem dX7_follow_51 : decode cX7_follow 51 = .ok (.ireturn, 1) := by decide +kernel
theorem dX7_follow_52 : decode cX7_follow 52 = .ok (.aload 4, 2) := by decide +kernel
theorem dX7_follow_54 : decode cX7_follow 54 = .ok (.getfield 89, 3) := by decide +kernel
theorem dX7_follow_57 : decode cX7_follow 57 = .ok (.aload_n 3, 1) := by decide +kernel
theorem dX7_follow_58 : decode cX7_follow 58 = .ok (.getfield 134, 3) := by decide +kernel
theorem dX7_follow_61 : decode cX7_follow 61 = .ok (.if_icmp .ge 12, 3) := by decide +kernel
theorem dX7_follow_64 : decode cX7_follow 64 = .ok (.aload 4, 2) := by decide +kernel
theorem dX7_follow_66 : decode cX7_follow 66 = .ok (.aload_n 3, 1) := by decide +kernel
theorem dX7_follow_67 : decode cX7_follow 67 = .ok (.getfield 134, 3) := by decide +kernel
theorem dX7_follow_70 : decode cX7_follow 70 = .ok (.invokevirtual 152, 3) := by decide +kernel
theorem dX7_follow_73 : decode cX7_follow 73 = .ok (.aload 4, 2) := by decide +kernel
theorem dX7_follow_75 : decode cX7_follow 75 = .ok (.getfield 134, 3) := by decide +kernel
theorem dX7_follow_78 : decode cX7_follow 78 = .ok (.aload_n 3, 1) := by decide +kernel
theorem dX7_follow_79 : decode cX7_follow 79 = .ok (.getfield 134, 3) := by decide +kernel
theorem dX7_follow_82 : decode cX7_follow 82 = .ok (.invokestatic 155, 3) := by decide +kernel
theorem dX7_follow_85 : decode cX7_follow 85 = .ok (.istore 5, 2) := by decide +kernel
theorem dX7_follow_87 : decode cX7_follow 87 = .ok (.iload 5, 2) := by decide +kernel
theorem dX7_follow_89 : decode cX7_follow 89 = .ok (.aload 4, 2) := by decide +kernel
theorem dX7_follow_91 : decode cX7_follow 91 = .ok (.getfield 89, 3) := by decide +kernel
theorem dX7_follow_94 : decode cX7_follow 94 = .ok (.if_icmp .ge 36, 3) := by decide +kernel
theorem dX7_follow_97 : decode cX7_follow 97 = .ok (.iload 5, 2) := by decide +kernel
theorem dX7_follow_99 : decode cX7_follow 99 = .ok (.aload_n 3, 1) := by decide +kernel
theorem dX7_follow_100 : decode cX7_follow 100 = .ok (.getfield 89, 3) := by decide +kernel
theorem dX7_follow_103 : decode cX7_follow 103 = .ok (.if_icmp .ge 27, 3) := by decide +kernel
theorem dX7_follow_106 : decode cX7_follow 106 = .ok (.aload 4, 2) := by decide +kernel
theorem dX7_follow_108 : decode cX7_follow 108 = .ok (.iload 5, 2) := by decide +kernel
theorem dX7_follow_110 : decode cX7_follow 110 = .ok (.iconst 0, 1) := by decide +kernel
theorem dX7_follow_111 : decode cX7_follow 111 = .ok (.invokevirtual 137, 3) := by decide +kernel
theorem dX7_follow_114 : decode cX7_follow 114 = .ok (.aload_n 3, 1) := by decide +kernel
theorem dX7_follow_115 : decode cX7_follow 115 = .ok (.iload 5, 2) := by decide +kernel
theorem dX7_follow_117 : decode cX7_follow 117 = .ok (.iconst 0, 1) := by decide +kernel
theorem dX7_follow_118 : decode cX7_follow 118 = .ok (.invokevirtual 137, 3) := by decide +kernel
theorem dX7_follow_121 : decode cX7_follow 121 = .ok (.if_icmp .ne 9, 3) := by decide +kernel
theorem dX7_follow_124 : decode cX7_follow 124 = .ok (.iinc 5 1, 3) := by decide +kernel
theorem dX7_follow_127 : decode cX7_follow 127 = .ok (.goto (-40), 3) := by decide +kernel
theorem dX7_follow_130 : decode cX7_follow 130 = .ok (.iload 5, 2) := by decide +kernel
theorem dX7_follow_132 : decode cX7_follow 132 = .ok (.aload 4, 2) := by decide +kernel
theorem dX7_follow_134 : decode cX7_follow 134 = .ok (.getfield 89, 3) := by decide +kernel
theorem dX7_follow_137 : decode cX7_follow 137 = .ok (.if_icmp .ge 10, 3) := by decide +kernel
theorem dX7_follow_140 : decode cX7_follow 140 = .ok (.aload 4, 2) := by decide +kernel
theorem dX7_follow_142 : decode cX7_follow 142 = .ok (.iload 5, 2) := by decide +kernel
theorem dX7_follow_144 : decode cX7_follow 144 = .ok (.putfield 89, 3) := by decide +kernel
theorem dX7_follow_147 : decode cX7_follow 147 = .ok (.aload 4, 2) := by decide +kernel
theorem dX7_follow_149 : decode cX7_follow 149 = .ok (.aload 4, 2) := by decide +kernel
theorem dX7_follow_151 : decode cX7_follow 151 = .ok (.getfield 158, 3) := by decide +kernel
theorem dX7_follow_154 : decode cX7_follow 154 = .ok (.aload 4, 2) := by decide +kernel
theorem dX7_follow_156 : decode cX7_follow 156 = .ok (.getfield 89, 3) := by decide +kernel
theorem dX7_follow_159 : decode cX7_follow 159 = .ok (.invokestatic 105, 3) := by decide +kernel
theorem dX7_follow_162 : decode cX7_follow 162 = .ok (.putfield 158, 3) := by decide +kernel
theorem dX7_follow_165 : decode cX7_follow 165 = .ok (.aload 4, 2) := by decide +kernel
theorem dX7_follow_167 : decode cX7_follow 167 = .ok (.aload 4, 2) := by decide +kernel
theorem dX7_follow_169 : decode cX7_follow 169 = .ok (.getfield 89, 3) := by decide +kernel
theorem dX7_follow_172 : decode cX7_follow 172 = .ok (.putfield 92, 3) := by decide +kernel
theorem dX7_follow_175 : decode cX7_follow 175 = .ok (.aload 4, 2) := by decide +kernel
theorem dX7_follow_177 : decode cX7_follow 177 = .ok (.getfield 89, 3) := by decide +kernel
theorem dX7_follow_180 : decode cX7_follow 180 = .ok (.aload_n 3, 1) := by decide +kernel
theorem dX7_follow_181 : decode cX7_follow 181 = .ok (.getfield 89, 3) := by decide +kernel
theorem dX7_follow_184 : decode cX7_follow 184 = .ok (.if_icmp .ne 12, 3) := by decide +kernel
theorem dX7_follow_187 : decode cX7_follow 187 = .ok (.aload 4, 2) := by decide +kernel
theorem dX7_follow_189 : decode cX7_follow 189 = .ok (.aload_n 0, 1) := by decide +kernel
theorem dX7_follow_190 : decode cX7_follow 190 = .ok (.getfield 119, 3) := by decide +kernel
theorem dX7_follow_193 : decode cX7_follow 193 = .ok (.putfield 122, 3) := by decide +kernel
theorem dX7_follow_196 : decode cX7_follow 196 = .ok (.aload 4, 2) := by decide +kernel
theorem dX7_follow_198 : decode cX7_follow 198 = .ok (.getfield 89, 3) := by decide +kernel
theorem dX7_follow_201 : decode cX7_follow 201 = .ok (.aload_n 3, 1) := by decide +kernel
theorem dX7_follow_202 : decode cX7_follow 202 = .ok (.getfield 109, 3) := by decide +kernel
theorem dX7_follow_205 : decode cX7_follow 205 = .ok (.if_icmp .lt 15, 3) := by decide +kernel
theorem dX7_follow_208 : decode cX7_follow 208 = .ok (.aload_n 0, 1) := by decide +kernel
theorem dX7_follow_209 : decode cX7_follow 209 = .ok (.getfield 31, 3) := by decide +kernel
theorem dX7_follow_212 : decode cX7_follow 212 = .ok (.iload_n 2, 1) := by decide +kernel
theorem dX7_follow_213 : decode cX7_follow 213 = .ok (.dup2, 1) := by decide +kernel
theorem dX7_follow_214 : decode cX7_follow 214 = .ok (.iaload, 1) := by decide +kernel
theorem dX7_follow_215 : decode cX7_follow 215 = .ok (.iconst 1, 1) := by decide +kernel
theorem dX7_follow_216 : decode cX7_follow 216 = .ok (.iload_n 1, 1) := by decide +kernel
theorem dX7_follow_217 : decode cX7_follow 217 = .ok (.ishl, 1) := by decide +kernel
theorem dX7_follow_218 : decode cX7_follow 218 = .ok (.ior, 1) := by decide +kernel
theorem dX7_follow_219 : decode cX7_follow 219 = .ok (.iastore, 1) := by decide +kernel
theorem dX7_follow_220 : decode cX7_follow 220 = .ok (.aload_n 0, 1) := by decide +kernel
theorem dX7_follow_221 : decode cX7_follow 221 = .ok (.iload_n 2, 1) := by decide +kernel
theorem dX7_follow_222 : decode cX7_follow 222 = .ok (.invokevirtual 125, 3) := by decide +kernel
theorem dX7_follow_225 : decode cX7_follow 225 = .ok (.iconst 0, 1) := by decide +kernel
theorem dX7_follow_226 : decode cX7_follow 226 = .ok (.istore 6, 2) := by decide +kernel
theorem dX7_follow_228 : decode cX7_follow 228 = .ok (.iload 6, 2) := by decide +kernel
theorem dX7_follow_230 : decode cX7_follow 230 = .ok (.iconst 5, 1) := by decide +kernel
theorem dX7_follow_231 : decode cX7_follow 231 = .ok (.if_icmp .ge 32, 3) := by decide +kernel
theorem dX7_follow_234 : decode cX7_follow 234 = .ok (.aload 4, 2) := by decide +kernel
theorem dX7_follow_236 : decode cX7_follow 236 = .ok (.getfield 89, 3) := by decide +kernel
theorem dX7_follow_239 : decode cX7_follow 239 = .ok (.aload_n 3, 1) := by decide +kernel
theorem dX7_follow_240 : decode cX7_follow 240 = .ok (.getfield 89, 3) := by decide +kernel
theorem dX7_follow_243 : decode cX7_follow 243 = .ok (.if_icmp .ge 20, 3) := by decide +kernel
theorem dX7_follow_246 : decode cX7_follow 246 = .ok (.aload 4, 2) := by decide +kernel
theorem dX7_follow_248 : decode cX7_follow 248 = .ok (.aload_n 3, 1) := by decide +kernel
theorem dX7_follow_249 : decode cX7_follow 249 = .ok (.aload 4, 2) := by decide +kernel
theorem dX7_follow_251 : decode cX7_follow 251 = .ok (.getfield 89, 3) := by decide +kernel
theorem dX7_follow_254 : decode cX7_follow 254 = .ok (.invokevirtual 161, 3) := by decide +kernel
theorem dX7_follow_257 : decode cX7_follow 257 = .ok (.iinc 6 1, 3) := by decide +kernel
theorem dX7_follow_260 : decode cX7_follow 260 = .ok (.goto (-32), 3) := by decide +kernel
theorem dX7_follow_263 : decode cX7_follow 263 = .ok (.aload 4, 2) := by decide +kernel
theorem dX7_follow_265 : decode cX7_follow 265 = .ok (.aload_n 3, 1) := by decide +kernel
theorem dX7_follow_266 : decode cX7_follow 266 = .ok (.getfield 134, 3) := by decide +kernel
theorem dX7_follow_269 : decode cX7_follow 269 = .ok (.invokevirtual 152, 3) := by decide +kernel
theorem dX7_follow_272 : decode cX7_follow 272 = .ok (.aload 4, 2) := by decide +kernel
theorem dX7_follow_274 : decode cX7_follow 274 = .ok (.aload_n 3, 1) := by decide +kernel
theorem dX7_follow_275 : decode cX7_follow 275 = .ok (.getfield 109, 3) := by decide +kernel
theorem dX7_follow_278 : decode cX7_follow 278 = .ok (.aload 4, 2) := by decide +kernel
theorem dX7_follow_280 : decode cX7_follow 280 = .ok (.getfield 89, 3) := by decide +kernel
theorem dX7_follow_283 : decode cX7_follow 283 = .ok (.invokestatic 105, 3) := by decide +kernel
theorem dX7_follow_286 : decode cX7_follow 286 = .ok (.putfield 109, 3) := by decide +kernel
theorem dX7_follow_289 : decode cX7_follow 289 = .ok (.aload 4, 2) := by decide +kernel
theorem dX7_follow_291 : decode cX7_follow 291 = .ok (.aload 4, 2) := by decide +kernel
theorem dX7_follow_293 : decode cX7_follow 293 = .ok (.getfield 134, 3) := by decide +kernel
theorem dX7_follow_296 : decode cX7_follow 296 = .ok (.aload 4, 2) := by decide +kernel
theorem dX7_follow_298 : decode cX7_follow 298 = .ok (.getfield 158, 3) := by decide +kernel
theorem dX7_follow_301 : decode cX7_follow 301 = .ok (.aload 4, 2) := by decide +kernel
theorem dX7_follow_303 : decode cX7_follow 303 = .ok (.getfield 89, 3) := by decide +kernel
theorem dX7_follow_306 : decode cX7_follow 306 = .ok (.invokestatic 105, 3) := by decide +kernel
theorem dX7_follow_309 : decode cX7_follow 309 = .ok (.invokestatic 155, 3) := by decide +kernel
theorem dX7_follow_312 : decode cX7_follow 312 = .ok (.putfield 158, 3) := by decide +kernel
theorem dX7_follow_315 : decode cX7_follow 315 = .ok (.iload 6, 2) := by decide +kernel
theorem dX7_follow_317 : decode cX7_follow 317 = .ok (.ireturn, 1) := by decide +kernel
set_option maxRecDepth 20000 in
theorem ggX7_begin_X7_isHandle : GoodIn wsX7_begin wsX7_isHandle := goodIn_r _ [7] (by decide +kernel) (by decide +kernel)
set_option maxRecDepth 20000 in
theorem gX7_begin_X7_isHandle : GoodIn wsX7_begin (va_wsS RX7 131 yX7_isHandle wsX7_isHandle) := goodIn_app (goodIn_of _ (by decide +kernel)) ggX7_begin_X7_isHandle
theorem dX7_begin_0 : decode cX7_begin 0 = .ok (.iload_n 1, 1) := by decide +kernel
theorem dX7_begin_1 : decode cX7_begin 1 = .ok (.invokestatic 131, 3) := by decide +kernel
theorem dX7_begin_4 : decode cX7_begin 4 = .ok (.ifCond .ne 5, 3) := by decide +kernel
theorem dX7_begin_7 : decode cX7_begin 7 = .ok (.iconst (-1), 1) := by decide +kernel
theorem dX7_begin_8 : decode cX7_begin 8 = .ok (.ireturn, 1) := by decide +kernel
theorem dX7_begin_9 : decode cX7_begin 9 = .ok (.iload_n 1, 1) := by decide +kernel
theorem dX7_begin_10 : decode cX7_begin 10 = .ok (.bipush 8, 2) := by decide +kernel
theorem dX7_begin_12 : decode cX7_begin 12 = .ok (.irem, 1) := by decide +kernel
theorem dX7_begin_13 : decode cX7_begin 13 = .ok (.istore_n 2, 1) := by decide +kernel
theorem dX7_begin_14 : decode cX7_begin 14 = .ok (.aload_n 0, 1) := by decide +kernel
theorem dX7_begin_15 : decode cX7_begin 15 = .ok (.getfield 34, 3) := by decide +kernel
theorem dX7_begin_18 : decode cX7_begin 18 = .ok (.iload_n 2, 1) := by decide +kernel
theorem dX7_begin_19 : decode cX7_begin 19 = .ok (.iaload, 1) := by decide +kernel
theorem dX7_begin_20 : decode cX7_begin 20 = .ok (.iload_n 1, 1) := by decide +kernel
theorem dX7_begin_21 : decode cX7_begin 21 = .ok (.bipush 8, 2) := by decide +kernel
theorem dX7_begin_23 : decode cX7_begin 23 = .ok (.idiv, 1) := by decide +kernel
theorem dX7_begin_24 : decode cX7_begin 24 = .ok (.if_icmp .ne 12, 3) := by decide +kernel
theorem dX7_begin_27 : decode cX7_begin 27 = .ok (.aload_n 0, 1) := by decide +kernel
theorem dX7_begin_28 : decode cX7_begin 28 = .ok (.getfield 37, 3) := by decide +kernel
theorem dX7_begin_31 : decode cX7_begin 31 = .ok (.iload_n 2, 1) := by decide +kernel
theorem dX7_begin_32 : decode cX7_begin 32 = .ok (.iaload, 1) := by decide +kernel
theorem dX7_begin_33 : decode cX7_begin 33 = .ok (.ifCond .eq 6, 3) := by decide +kernel
theorem dX7_begin_36 : decode cX7_begin 36 = .ok (.bipush (-4), 2) := by decide +kernel
theorem dX7_begin_38 : decode cX7_begin 38 = .ok (.ireturn, 1) := by decide +kernel
theorem dX7_begin_39 : decode cX7_begin 39 = .ok (.aload_n 0, 1) := by decide +kernel
theorem dX7_begin_40 : decode cX7_begin 40 = .ok (.getfield 37, 3) := by decide +kernel
theorem dX7_begin_43 : decode cX7_begin 43 = .ok (.iload_n 2, 1) := by decide +kernel
theorem dX7_begin_44 : decode cX7_begin 44 = .ok (.iconst 1, 1) := by decide +kernel
theorem dX7_begin_45 : decode cX7_begin 45 = .ok (.iastore, 1) := by decide +kernel
theorem dX7_begin_46 : decode cX7_begin 46 = .ok (.aload_n 0, 1) := by decide +kernel
theorem dX7_begin_47 : decode cX7_begin 47 = .ok (.getfield 40, 3) := by decide +kernel
theorem dX7_begin_50 : decode cX7_begin 50 = .ok (.iload_n 2, 1) := by decide +kernel
theorem dX7_begin_51 : decode cX7_begin 51 = .ok (.iconst 0, 1) := by decide +kernel
theorem dX7_begin_52 : decode cX7_begin 52 = .ok (.iastore, 1) := by decide +kernel
theorem dX7_begin_53 : decode cX7_begin 53 = .ok (.iconst 0, 1) := by decide +kernel
theorem dX7_begin_54 : decode cX7_begin 54 = .ok (.ireturn, 1) := by decide +kernel
set_option maxRecDepth 20000 in
theorem ggX7_finish_X7_isHandle : GoodIn wsX7_finish wsX7_isHandle := goodIn_r _ [9] (by decide +kernel) (by decide +kernel)
set_option maxRecDepth 20000 in
theorem gX7_finish_X7_isHandle : GoodIn wsX7_finish (va_wsS RX7 131 yX7_isHandle wsX7_isHandle) := goodIn_app (goodIn_of _ (by decide +kernel)) ggX7_finish_X7_isHandle
set_option maxRecDepth 20000 in
theorem ggX7_finish_J6_bitCount_0f7a4 : GoodIn wsX7_finish wsJ6_bitCount_0f7a4 := goodIn_r _ [13, 14, 15, 16] (by decide +kernel) (by decide +kernel)
set_option maxRecDepth 20000 in
theorem gX7_finish_J6_bitCount_0f7a4 : GoodIn wsX7_finish (va_wsS RX7 112 yJ6_bitCount_0f7a4 wsJ6_bitCount_0f7a4) := goodIn_app (goodIn_of _ (by decide +kernel)) ggX7_finish_J6_bitCount_0f7a4
theorem dX7_finish_0 : decode cX7_finish 0 = .ok (.iload_n 1, 1) := by decide +kernel
theorem dX7_finish_1 : decode cX7_finish 1 = .ok (.invokestatic 131, 3) := by decide +kernel
theorem dX7_finish_4 : decode cX7_finish 4 = .ok (.ifCond .ne 5, 3) := by decide +kernel
theorem dX7_finish_7 : decode cX7_finish 7 = .ok (.iconst (-1), 1) := by decide +kernel
theorem dX7_finish_8 : decode cX7_finish 8 = .ok (.ireturn, 1) := by decide +kernel
theorem dX7_finish_9 : decode cX7_finish 9 = .ok (.iload_n 1, 1) := by decide +kernel
theorem dX7_finish_10 : decode cX7_finish 10 = .ok (.bipush 8, 2) := by decide +kernel
theorem dX7_finish_12 : decode cX7_finish 12 = .ok (.irem, 1) := by decide +kernel
theorem dX7_finish_13 : decode cX7_finish 13 = .ok (.istore_n 3, 1) := by decide +kernel
theorem dX7_finish_14 : decode cX7_finish 14 = .ok (.aload_n 0, 1) := by decide +kernel
theorem dX7_finish_15 : decode cX7_finish 15 = .ok (.getfield 34, 3) := by decide +kernel
theorem dX7_finish_18 : decode cX7_finish 18 = .ok (.iload_n 3, 1) := by decide +kernel
theorem dX7_finish_19 : decode cX7_finish 19 = .ok (.iaload, 1) := by decide +kernel
theorem dX7_finish_20 : decode cX7_finish 20 = .ok (.iload_n 1, 1) := by decide +kernel
theorem dX7_finish_21 : decode cX7_finish 21 = .ok (.bipush 8, 2) := by decide +kernel
theorem dX7_finish_23 : decode cX7_finish 23 = .ok (.idiv, 1) := by decide +kernel
theorem dX7_finish_24 : decode cX7_finish 24 = .ok (.if_icmp .ne 13, 3) := by decide +kernel
theorem dX7_finish_27 : decode cX7_finish 27 = .ok (.aload_n 0, 1) := by decide +kernel
theorem dX7_finish_28 : decode cX7_finish 28 = .ok (.getfield 37, 3) := by decide +kernel
theorem dX7_finish_31 : decode cX7_finish 31 = .ok (.iload_n 3, 1) := by decide +kernel
theorem dX7_finish_32 : decode cX7_finish 32 = .ok (.iaload, 1) := by decide +kernel
theorem dX7_finish_33 : decode cX7_finish 33 = .ok (.iconst 1, 1) := by decide +kernel
theorem dX7_finish_34 : decode cX7_finish 34 = .ok (.if_icmp .eq 6, 3) := by decide +kernel
theorem dX7_finish_37 : decode cX7_finish 37 = .ok (.bipush (-4), 2) := by decide +kernel
theorem dX7_finish_39 : decode cX7_finish 39 = .ok (.ireturn, 1) := by decide +kernel
theorem dX7_finish_40 : decode cX7_finish 40 = .ok (.aload_n 0, 1) := by decide +kernel
theorem dX7_finish_41 : decode cX7_finish 41 = .ok (.getfield 37, 3) := by decide +kernel
theorem dX7_finish_44 : decode cX7_finish 44 = .ok (.iload_n 3, 1) := by decide +kernel
theorem dX7_finish_45 : decode cX7_finish 45 = .ok (.iconst 2, 1) := by decide +kernel
theorem dX7_finish_46 : decode cX7_finish 46 = .ok (.iastore, 1) := by decide +kernel
theorem dX7_finish_47 : decode cX7_finish 47 = .ok (.aload_n 0, 1) := by decide +kernel
theorem dX7_finish_48 : decode cX7_finish 48 = .ok (.getfield 43, 3) := by decide +kernel
theorem dX7_finish_51 : decode cX7_finish 51 = .ok (.iload_n 3, 1) := by decide +kernel
theorem dX7_finish_52 : decode cX7_finish 52 = .ok (.aload_n 0, 1) := by decide +kernel
theorem dX7_finish_53 : decode cX7_finish 53 = .ok (.getfield 34, 3) := by decide +kernel
theorem dX7_finish_56 : decode cX7_finish 56 = .ok (.iload_n 3, 1) := by decide +kernel
theorem dX7_finish_57 : decode cX7_finish 57 = .ok (.iaload, 1) := by decide +kernel
theorem dX7_finish_58 : decode cX7_finish 58 = .ok (.iastore, 1) := by decide +kernel
theorem dX7_finish_59 : decode cX7_finish 59 = .ok (.aload_n 0, 1) := by decide +kernel
theorem dX7_finish_60 : decode cX7_finish 60 = .ok (.getfield 46, 3) := by decide +kernel
theorem dX7_finish_63 : decode cX7_finish 63 = .ok (.iload_n 3, 1) := by decide +kernel
theorem dX7_finish_64 : decode cX7_finish 64 = .ok (.iload_n 2, 1) := by decide +kernel
theorem dX7_finish_65 : decode cX7_finish 65 = .ok (.ifCond .eq 7, 3) := by decide +kernel
theorem dX7_finish_68 : decode cX7_finish 68 = .ok (.iconst 1, 1) := by decide +kernel
theorem dX7_finish_69 : decode cX7_finish 69 = .ok (.goto 4, 3) := by decide +kernel
theorem dX7_finish_72 : decode cX7_finish 72 = .ok (.iconst 2, 1) := by decide +kernel
theorem dX7_finish_73 : decode cX7_finish 73 = .ok (.iastore, 1) := by decide +kernel
theorem dX7_finish_74 : decode cX7_finish 74 = .ok (.aload_n 0, 1) := by decide +kernel
theorem dX7_finish_75 : decode cX7_finish 75 = .ok (.getfield 40, 3) := by decide +kernel
theorem dX7_finish_78 : decode cX7_finish 78 = .ok (.iload_n 3, 1) := by decide +kernel
theorem dX7_finish_79 : decode cX7_finish 79 = .ok (.iaload, 1) := by decide +kernel
theorem dX7_finish_80 : decode cX7_finish 80 = .ok (.invokestatic 112, 3) := by decide +kernel
theorem dX7_finish_83 : decode cX7_finish 83 = .ok (.ireturn, 1) := by decide +kernel
set_option maxRecDepth 20000 in
theorem ggX7_settle_X7_in : GoodIn wsX7_settle wsX7_in := goodIn_r _ [10] (by decide +kernel) (by decide +kernel)
set_option maxRecDepth 20000 in
theorem gX7_settle_X7_in : GoodIn wsX7_settle (va_wsS RX7 76 yX7_in wsX7_in) := goodIn_app (goodIn_of _ (by decide +kernel)) ggX7_settle_X7_in
set_option maxRecDepth 20000 in
theorem ggX7_settle_X7_own : GoodIn wsX7_settle wsX7_own := goodIn_r _ [14, 15, 16, 17, 18, 19, 9, 20, 21, 22, 7, 8, 10, 60, 61, 62, 63, 64, 65, 66, 67, 68, 69, 70, 71, 72, 73, 74, 75, 76, 77] (by decide +kernel) (by decide +kernel)
set_option maxRecDepth 20000 in
theorem gX7_settle_X7_own : GoodIn wsX7_settle (wsV RX7 95 RX7 yX7_own wsX7_own) := goodIn_app (goodIn_of _ (by decide +kernel)) ggX7_settle_X7_own
set_option maxRecDepth 20000 in
theorem ggX7_settle_X6_many : GoodIn wsX7_settle wsX6_many := goodIn_r _ [27, 28, 29, 78, 79, 80, 81, 82, 83, 84] (by decide +kernel) (by decide +kernel)
set_option maxRecDepth 20000 in
theorem gX7_settle_X6_many : GoodIn wsX7_settle (wsV RX7 140 RX6 yX6_many wsX6_many) := goodIn_app (goodIn_of _ (by decide +kernel)) ggX7_settle_X6_many
set_option maxRecDepth 20000 in
theorem ggX7_settle_X6_add : GoodIn wsX7_settle wsX6_add := goodIn_r _ [33, 34, 28, 35, 24, 25, 26, 27, 29, 78, 79, 80, 81, 82, 83, 84] (by decide +kernel) (by decide +kernel)
set_option maxRecDepth 20000 in
theorem gX7_settle_X6_add : GoodIn wsX7_settle (wsV RX7 144 RX6 yX6_add wsX6_add) := goodIn_app (goodIn_of _ (by decide +kernel)) ggX7_settle_X6_add
set_option maxRecDepth 20000 in
theorem ggX7_settle_X7_rise : GoodIn wsX7_settle wsX7_rise := goodIn_r _ [39, 40, 41, 42, 43, 44, 45, 46, 11, 12, 13, 9, 14, 15, 16, 17, 18, 19, 20, 21, 22, 7, 8, 10, 47, 48, 49, 50, 51, 52, 60, 61, 62, 63, 64, 65, 66, 67, 68, 69, 70, 71, 72, 73, 74, 75, 76, 77, 78, 79, 80, 81, 82, 83, 84] (by decide +kernel) (by decide +kernel)
set_option maxRecDepth 20000 in
theorem gX7_settle_X7_rise : GoodIn wsX7_settle (wsV RX7 125 RX7 yX7_rise wsX7_rise) := goodIn_app (goodIn_of _ (by decide +kernel)) ggX7_settle_X7_rise
set_option maxRecDepth 20000 in
theorem ggX7_settle_J6_bitCount_0f7a4 : GoodIn wsX7_settle wsJ6_bitCount_0f7a4 := goodIn_r _ [56, 57, 58, 59] (by decide +kernel) (by decide +kernel)
set_option maxRecDepth 20000 in
theorem gX7_settle_J6_bitCount_0f7a4 : GoodIn wsX7_settle (va_wsS RX7 112 yJ6_bitCount_0f7a4 wsJ6_bitCount_0f7a4) := goodIn_app (goodIn_of _ (by decide +kernel)) ggX7_settle_J6_bitCount_0f7a4
theorem dX7_settle_0 : decode cX7_settle 0 = .ok (.iload_n 1, 1) := by decide +kernel
theorem dX7_settle_1 : decode cX7_settle 1 = .ok (.i2l, 1) := by decide +kernel
theorem dX7_settle_2 : decode cX7_settle 2 = .ok (.lconst 0, 1) := by decide +kernel
theorem dX7_settle_3 : decode cX7_settle 3 = .ok (.ldc2_w 129, 3) := by decide +kernel
theorem dX7_settle_6 : decode cX7_settle 6 = .ok (.invokestatic 76, 3) := by decide +kernel
theorem dX7_settle_9 : decode cX7_settle 9 = .ok (.ifCond .ne 5, 3) := by decide +kernel
theorem dX7_settle_12 : decode cX7_settle 12 = .ok (.iconst (-1), 1) := by decide +kernel
theorem dX7_settle_13 : decode cX7_settle 13 = .ok (.ireturn, 1) := by decide +kernel
theorem dX7_settle_14 : decode cX7_settle 14 = .ok (.aload_n 0, 1) := by decide +kernel
theorem dX7_settle_15 : decode cX7_settle 15 = .ok (.getfield 37, 3) := by decide +kernel
theorem dX7_settle_18 : decode cX7_settle 18 = .ok (.iload_n 1, 1) := by decide +kernel
theorem dX7_settle_19 : decode cX7_settle 19 = .ok (.iaload, 1) := by decide +kernel
theorem dX7_settle_20 : decode cX7_settle 20 = .ok (.iconst 2, 1) := by decide +kernel
theorem dX7_settle_21 : decode cX7_settle 21 = .ok (.if_icmp .eq 6, 3) := by decide +kernel
theorem dX7_settle_24 : decode cX7_settle 24 = .ok (.bipush (-2), 2) := by decide +kernel
theorem dX7_settle_26 : decode cX7_settle 26 = .ok (.ireturn, 1) := by decide +kernel
theorem dX7_settle_27 : decode cX7_settle 27 = .ok (.iconst 0, 1) := by decide +kernel
theorem dX7_settle_28 : decode cX7_settle 28 = .ok (.istore_n 2, 1) := by decide +kernel
theorem dX7_settle_29 : decode cX7_settle 29 = .ok (.iload_n 2, 1) := by decide +kernel
theorem dX7_settle_30 : decode cX7_settle 30 = .ok (.iconst 4, 1) := by decide +kernel
theorem dX7_settle_31 : decode cX7_settle 31 = .ok (.if_icmp .ge 93, 3) := by decide +kernel
theorem dX7_settle_34 : decode cX7_settle 34 = .ok (.aload_n 0, 1) := by decide +kernel
theorem dX7_settle_35 : decode cX7_settle 35 = .ok (.getfield 40, 3) := by decide +kernel
theorem dX7_settle_38 : decode cX7_settle 38 = .ok (.iload_n 1, 1) := by decide +kernel
theorem dX7_settle_39 : decode cX7_settle 39 = .ok (.iaload, 1) := by decide +kernel
theorem dX7_settle_40 : decode cX7_settle 40 = .ok (.iload_n 2, 1) := by decide +kernel
theorem dX7_settle_41 : decode cX7_settle 41 = .ok (.ishr, 1) := by decide +kernel
theorem dX7_settle_42 : decode cX7_settle 42 = .ok (.iconst 1, 1) := by decide +kernel
theorem dX7_settle_43 : decode cX7_settle 43 = .ok (.iand, 1) := by decide +kernel
theorem dX7_settle_44 : decode cX7_settle 44 = .ok (.ifCond .ne 6, 3) := by decide +kernel
theorem dX7_settle_47 : decode cX7_settle 47 = .ok (.goto 71, 3) := by decide +kernel
theorem dX7_settle_50 : decode cX7_settle 50 = .ok (.aload_n 0, 1) := by decide +kernel
theorem dX7_settle_51 : decode cX7_settle 51 = .ok (.iload_n 2, 1) := by decide +kernel
theorem dX7_settle_52 : decode cX7_settle 52 = .ok (.invokevirtual 95, 3) := by decide +kernel
theorem dX7_settle_55 : decode cX7_settle 55 = .ok (.astore_n 3, 1) := by decide +kernel
theorem dX7_settle_56 : decode cX7_settle 56 = .ok (.aload_n 3, 1) := by decide +kernel
theorem dX7_settle_57 : decode cX7_settle 57 = .ok (.ifnull 61, 3) := by decide +kernel
theorem dX7_settle_60 : decode cX7_settle 60 = .ok (.aload_n 3, 1) := by decide +kernel
theorem dX7_settle_61 : decode cX7_settle 61 = .ok (.invokevirtual 140, 3) := by decide +kernel
theorem dX7_settle_64 : decode cX7_settle 64 = .ok (.bipush 60, 2) := by decide +kernel
theorem dX7_settle_66 : decode cX7_settle 66 = .ok (.if_icmp .lt 6, 3) := by decide +kernel
theorem dX7_settle_69 : decode cX7_settle 69 = .ok (.goto 49, 3) := by decide +kernel
theorem dX7_settle_72 : decode cX7_settle 72 = .ok (.aload_n 3, 1) := by decide +kernel
theorem dX7_settle_73 : decode cX7_settle 73 = .ok (.aload_n 0, 1) := by decide +kernel
theorem dX7_settle_74 : decode cX7_settle 74 = .ok (.getfield 25, 3) := by decide +kernel
theorem dX7_settle_77 : decode cX7_settle 77 = .ok (.iload_n 2, 1) := by decide +kernel
theorem dX7_settle_78 : decode cX7_settle 78 = .ok (.iaload, 1) := by decide +kernel
theorem dX7_settle_79 : decode cX7_settle 79 = .ok (.aload_n 0, 1) := by decide +kernel
theorem dX7_settle_80 : decode cX7_settle 80 = .ok (.getfield 46, 3) := by decide +kernel
theorem dX7_settle_83 : decode cX7_settle 83 = .ok (.iload_n 1, 1) := by decide +kernel
theorem dX7_settle_84 : decode cX7_settle 84 = .ok (.iaload, 1) := by decide +kernel
theorem dX7_settle_85 : decode cX7_settle 85 = .ok (.iload_n 1, 1) := by decide +kernel
theorem dX7_settle_86 : decode cX7_settle 86 = .ok (.aload_n 0, 1) := by decide +kernel
theorem dX7_settle_87 : decode cX7_settle 87 = .ok (.getfield 43, 3) := by decide +kernel
theorem dX7_settle_90 : decode cX7_settle 90 = .ok (.iload_n 1, 1) := by decide +kernel
theorem dX7_settle_91 : decode cX7_settle 91 = .ok (.iaload, 1) := by decide +kernel
theorem dX7_settle_92 : decode cX7_settle 92 = .ok (.iconst (-1), 1) := by decide +kernel
theorem dX7_settle_93 : decode cX7_settle 93 = .ok (.iconst 0, 1) := by decide +kernel
theorem dX7_settle_94 : decode cX7_settle 94 = .ok (.iconst 0, 1) := by decide +kernel
theorem dX7_settle_95 : decode cX7_settle 95 = .ok (.iconst 0, 1) := by decide +kernel
theorem dX7_settle_96 : decode cX7_settle 96 = .ok (.invokevirtual 144, 3) := by decide +kernel
theorem dX7_settle_99 : decode cX7_settle 99 = .ok (.aload_n 0, 1) := by decide +kernel
theorem dX7_settle_100 : decode cX7_settle 100 = .ok (.getfield 40, 3) := by decide +kernel
theorem dX7_settle_103 : decode cX7_settle 103 = .ok (.iload_n 1, 1) := by decide +kernel
theorem dX7_settle_104 : decode cX7_settle 104 = .ok (.dup2, 1) := by decide +kernel
theorem dX7_settle_105 : decode cX7_settle 105 = .ok (.iaload, 1) := by decide +kernel
theorem dX7_settle_106 : decode cX7_settle 106 = .ok (.iconst 1, 1) := by decide +kernel
theorem dX7_settle_107 : decode cX7_settle 107 = .ok (.iload_n 2, 1) := by decide +kernel
theorem dX7_settle_108 : decode cX7_settle 108 = .ok (.ishl, 1) := by decide +kernel
theorem dX7_settle_109 : decode cX7_settle 109 = .ok (.iconst (-1), 1) := by decide +kernel
theorem dX7_settle_110 : decode cX7_settle 110 = .ok (.ixor, 1) := by decide +kernel
theorem dX7_settle_111 : decode cX7_settle 111 = .ok (.iand, 1) := by decide +kernel
theorem dX7_settle_112 : decode cX7_settle 112 = .ok (.iastore, 1) := by decide +kernel
theorem dX7_settle_113 : decode cX7_settle 113 = .ok (.aload_n 0, 1) := by decide +kernel
theorem dX7_settle_114 : decode cX7_settle 114 = .ok (.iload_n 2, 1) := by decide +kernel
theorem dX7_settle_115 : decode cX7_settle 115 = .ok (.invokevirtual 125, 3) := by decide +kernel
theorem dX7_settle_118 : decode cX7_settle 118 = .ok (.iinc 2 1, 3) := by decide +kernel
theorem dX7_settle_121 : decode cX7_settle 121 = .ok (.goto (-92), 3) := by decide +kernel
theorem dX7_settle_124 : decode cX7_settle 124 = .ok (.aload_n 0, 1) := by decide +kernel
theorem dX7_settle_125 : decode cX7_settle 125 = .ok (.getfield 40, 3) := by decide +kernel
theorem dX7_settle_128 : decode cX7_settle 128 = .ok (.iload_n 1, 1) := by decide +kernel
theorem dX7_settle_129 : decode cX7_settle 129 = .ok (.iaload, 1) := by decide +kernel
theorem dX7_settle_130 : decode cX7_settle 130 = .ok (.ifCond .ne 10, 3) := by decide +kernel
theorem dX7_settle_133 : decode cX7_settle 133 = .ok (.aload_n 0, 1) := by decide +kernel
theorem dX7_settle_134 : decode cX7_settle 134 = .ok (.getfield 37, 3) := by decide +kernel
theorem dX7_settle_137 : decode cX7_settle 137 = .ok (.iload_n 1, 1) := by decide +kernel
theorem dX7_settle_138 : decode cX7_settle 138 = .ok (.iconst 0, 1) := by decide +kernel
theorem dX7_settle_139 : decode cX7_settle 139 = .ok (.iastore, 1) := by decide +kernel
theorem dX7_settle_140 : decode cX7_settle 140 = .ok (.aload_n 0, 1) := by decide +kernel
theorem dX7_settle_141 : decode cX7_settle 141 = .ok (.getfield 40, 3) := by decide +kernel
theorem dX7_settle_144 : decode cX7_settle 144 = .ok (.iload_n 1, 1) := by decide +kernel
theorem dX7_settle_145 : decode cX7_settle 145 = .ok (.iaload, 1) := by decide +kernel
theorem dX7_settle_146 : decode cX7_settle 146 = .ok (.invokestatic 112, 3) := by decide +kernel
theorem dX7_settle_149 : decode cX7_settle 149 = .ok (.ireturn, 1) := by decide +kernel
set_option maxRecDepth 20000 in
theorem ggX7_endOf_X6_get : GoodIn wsX7_endOf wsX6_get := goodIn_r _ [6, 7, 8, 9, 10, 11, 12, 13, 14, 15] (by decide +kernel) (by decide +kernel)
set_option maxRecDepth 20000 in
theorem gX7_endOf_X6_get : GoodIn wsX7_endOf (wsV RX7 137 RX6 yX6_get wsX6_get) := goodIn_app (goodIn_of _ (by decide +kernel)) ggX7_endOf_X6_get
theorem dX7_endOf_0 : decode cX7_endOf 0 = .ok (.iload_n 1, 1) := by decide +kernel
theorem dX7_endOf_1 : decode cX7_endOf 1 = .ok (.iconst 1, 1) := by decide +kernel
theorem dX7_endOf_2 : decode cX7_endOf 2 = .ok (.iadd, 1) := by decide +kernel
theorem dX7_endOf_3 : decode cX7_endOf 3 = .ok (.istore_n 2, 1) := by decide +kernel
theorem dX7_endOf_4 : decode cX7_endOf 4 = .ok (.iload_n 2, 1) := by decide +kernel
theorem dX7_endOf_5 : decode cX7_endOf 5 = .ok (.aload_n 0, 1) := by decide +kernel
theorem dX7_endOf_6 : decode cX7_endOf 6 = .ok (.getfield 89, 3) := by decide +kernel
theorem dX7_endOf_9 : decode cX7_endOf 9 = .ok (.if_icmp .ge 55, 3) := by decide +kernel
theorem dX7_endOf_12 : decode cX7_endOf 12 = .ok (.aload_n 0, 1) := by decide +kernel
theorem dX7_endOf_13 : decode cX7_endOf 13 = .ok (.iload_n 2, 1) := by decide +kernel
theorem dX7_endOf_14 : decode cX7_endOf 14 = .ok (.iconst 1, 1) := by decide +kernel
theorem dX7_endOf_15 : decode cX7_endOf 15 = .ok (.invokevirtual 137, 3) := by decide +kernel
theorem dX7_endOf_18 : decode cX7_endOf 18 = .ok (.ifCond .le 40, 3) := by decide +kernel
theorem dX7_endOf_21 : decode cX7_endOf 21 = .ok (.aload_n 0, 1) := by decide +kernel
theorem dX7_endOf_22 : decode cX7_endOf 22 = .ok (.iload_n 2, 1) := by decide +kernel
theorem dX7_endOf_23 : decode cX7_endOf 23 = .ok (.iconst 2, 1) := by decide +kernel
theorem dX7_endOf_24 : decode cX7_endOf 24 = .ok (.invokevirtual 137, 3) := by decide +kernel
theorem dX7_endOf_27 : decode cX7_endOf 27 = .ok (.aload_n 0, 1) := by decide +kernel
theorem dX7_endOf_28 : decode cX7_endOf 28 = .ok (.iload_n 1, 1) := by decide +kernel
theorem dX7_endOf_29 : decode cX7_endOf 29 = .ok (.iconst 2, 1) := by decide +kernel
theorem dX7_endOf_30 : decode cX7_endOf 30 = .ok (.invokevirtual 137, 3) := by decide +kernel
theorem dX7_endOf_33 : decode cX7_endOf 33 = .ok (.if_icmp .ne 25, 3) := by decide +kernel
theorem dX7_endOf_36 : decode cX7_endOf 36 = .ok (.aload_n 0, 1) := by decide +kernel
theorem dX7_endOf_37 : decode cX7_endOf 37 = .ok (.iload_n 2, 1) := by decide +kernel
theorem dX7_endOf_38 : decode cX7_endOf 38 = .ok (.iconst 3, 1) := by decide +kernel
theorem dX7_endOf_39 : decode cX7_endOf 39 = .ok (.invokevirtual 137, 3) := by decide +kernel
theorem dX7_endOf_42 : decode cX7_endOf 42 = .ok (.aload_n 0, 1) := by decide +kernel
theorem dX7_endOf_43 : decode cX7_endOf 43 = .ok (.iload_n 1, 1) := by decide +kernel
theorem dX7_endOf_44 : decode cX7_endOf 44 = .ok (.iconst 3, 1) := by decide +kernel
theorem dX7_endOf_45 : decode cX7_endOf 45 = .ok (.invokevirtual 137, 3) := by decide +kernel
theorem dX7_endOf_48 : decode cX7_endOf 48 = .ok (.if_icmp .ne 10, 3) := by decide +kernel
theorem dX7_endOf_51 : decode cX7_endOf 51 = .ok (.aload_n 0, 1) := by decide +kernel
theorem dX7_endOf_52 : decode cX7_endOf 52 = .ok (.iload_n 2, 1) := by decide +kernel
theorem dX7_endOf_53 : decode cX7_endOf 53 = .ok (.iconst 1, 1) := by decide +kernel
theorem dX7_endOf_54 : decode cX7_endOf 54 = .ok (.invokevirtual 137, 3) := by decide +kernel
theorem dX7_endOf_57 : decode cX7_endOf 57 = .ok (.ireturn, 1) := by decide +kernel
theorem dX7_endOf_58 : decode cX7_endOf 58 = .ok (.iinc 2 1, 3) := by decide +kernel
theorem dX7_endOf_61 : decode cX7_endOf 61 = .ok (.goto (-57), 3) := by decide +kernel
theorem dX7_endOf_64 : decode cX7_endOf 64 = .ok (.iconst 0, 1) := by decide +kernel
theorem dX7_endOf_65 : decode cX7_endOf 65 = .ok (.ireturn, 1) := by decide +kernel
set_option maxRecDepth 20000 in
theorem ggX7_firstOpen_X6_get : GoodIn wsX7_firstOpen wsX6_get := goodIn_r _ [7, 8, 9, 14, 15, 16, 17, 18, 19, 20] (by decide +kernel) (by decide +kernel)
set_option maxRecDepth 20000 in
theorem gX7_firstOpen_X6_get : GoodIn wsX7_firstOpen (wsV RX7 137 RX6 yX6_get wsX6_get) := goodIn_app (goodIn_of _ (by decide +kernel)) ggX7_firstOpen_X6_get
set_option maxRecDepth 20000 in
theorem ggX7_firstOpen_X7_endOf : GoodIn wsX7_firstOpen wsX7_endOf := goodIn_r _ [13, 2, 3, 4, 5, 6, 7, 8, 9, 14, 15, 16, 17, 18, 19, 20] (by decide +kernel) (by decide +kernel)
set_option maxRecDepth 20000 in
theorem gX7_firstOpen_X7_endOf : GoodIn wsX7_firstOpen (va_wsS RX7 165 yX7_endOf wsX7_endOf) := goodIn_app (goodIn_of _ (by decide +kernel)) ggX7_firstOpen_X7_endOf
theorem dX7_firstOpen_0 : decode cX7_firstOpen 0 = .ok (.aload_n 0, 1) := by decide +kernel
theorem dX7_firstOpen_1 : decode cX7_firstOpen 1 = .ok (.getfield 134, 3) := by decide +kernel
theorem dX7_firstOpen_4 : decode cX7_firstOpen 4 = .ok (.istore_n 1, 1) := by decide +kernel
theorem dX7_firstOpen_5 : decode cX7_firstOpen 5 = .ok (.iload_n 1, 1) := by decide +kernel
theorem dX7_firstOpen_6 : decode cX7_firstOpen 6 = .ok (.aload_n 0, 1) := by decide +kernel
theorem dX7_firstOpen_7 : decode cX7_firstOpen 7 = .ok (.getfield 89, 3) := by decide +kernel
theorem dX7_firstOpen_10 : decode cX7_firstOpen 10 = .ok (.if_icmp .ge 39, 3) := by decide +kernel
theorem dX7_firstOpen_13 : decode cX7_firstOpen 13 = .ok (.aload_n 0, 1) := by decide +kernel
theorem dX7_firstOpen_14 : decode cX7_firstOpen 14 = .ok (.iload_n 1, 1) := by decide +kernel
theorem dX7_firstOpen_15 : decode cX7_firstOpen 15 = .ok (.iconst 1, 1) := by decide +kernel
theorem dX7_firstOpen_16 : decode cX7_firstOpen 16 = .ok (.invokevirtual 137, 3) := by decide +kernel
theorem dX7_firstOpen_19 : decode cX7_firstOpen 19 = .ok (.ifCond .ne 24, 3) := by decide +kernel
theorem dX7_firstOpen_22 : decode cX7_firstOpen 22 = .ok (.aload_n 0, 1) := by decide +kernel
theorem dX7_firstOpen_23 : decode cX7_firstOpen 23 = .ok (.iload_n 1, 1) := by decide +kernel
theorem dX7_firstOpen_24 : decode cX7_firstOpen 24 = .ok (.bipush 7, 2) := by decide +kernel
theorem dX7_firstOpen_26 : decode cX7_firstOpen 26 = .ok (.invokevirtual 137, 3) := by decide +kernel
theorem dX7_firstOpen_29 : decode cX7_firstOpen 29 = .ok (.iconst 1, 1) := by decide +kernel
theorem dX7_firstOpen_30 : decode cX7_firstOpen 30 = .ok (.if_icmp .ne 13, 3) := by decide +kernel
theorem dX7_firstOpen_33 : decode cX7_firstOpen 33 = .ok (.aload_n 0, 1) := by decide +kernel
theorem dX7_firstOpen_34 : decode cX7_firstOpen 34 = .ok (.iload_n 1, 1) := by decide +kernel
theorem dX7_firstOpen_35 : decode cX7_firstOpen 35 = .ok (.invokestatic 165, 3) := by decide +kernel
theorem dX7_firstOpen_38 : decode cX7_firstOpen 38 = .ok (.ifCond .ne 5, 3) := by decide +kernel
theorem dX7_firstOpen_41 : decode cX7_firstOpen 41 = .ok (.iload_n 1, 1) := by decide +kernel
theorem dX7_firstOpen_42 : decode cX7_firstOpen 42 = .ok (.ireturn, 1) := by decide +kernel
theorem dX7_firstOpen_43 : decode cX7_firstOpen 43 = .ok (.iinc 1 1, 3) := by decide +kernel
theorem dX7_firstOpen_46 : decode cX7_firstOpen 46 = .ok (.goto (-41), 3) := by decide +kernel
theorem dX7_firstOpen_49 : decode cX7_firstOpen 49 = .ok (.aload_n 0, 1) := by decide +kernel
theorem dX7_firstOpen_50 : decode cX7_firstOpen 50 = .ok (.getfield 89, 3) := by decide +kernel
theorem dX7_firstOpen_53 : decode cX7_firstOpen 53 = .ok (.ireturn, 1) := by decide +kernel
set_option maxRecDepth 20000 in
theorem ggX7_consume_X7_isThere : GoodIn wsX7_consume wsX7_isThere := goodIn_r _ [12, 13, 14, 15, 16, 11, 17, 51, 52, 53, 54, 55, 56, 57, 58, 59, 60, 61, 62, 63, 64, 65, 66, 67, 68] (by decide +kernel) (by decide +kernel)
set_option maxRecDepth 20000 in
theorem gX7_consume_X7_isThere : GoodIn wsX7_consume (wsV RX7 82 RX7 yX7_isThere wsX7_isThere) := goodIn_app (goodIn_of _ (by decide +kernel)) ggX7_consume_X7_isThere
set_option maxRecDepth 20000 in
theorem ggX7_consume_X7_own : GoodIn wsX7_consume wsX7_own := goodIn_r _ [21, 22, 23, 24, 25, 26, 11, 27, 28, 29, 15, 16, 17, 51, 52, 53, 54, 55, 56, 57, 58, 59, 60, 61, 62, 63, 64, 65, 66, 67, 68] (by decide +kernel) (by decide +kernel)
set_option maxRecDepth 20000 in
theorem gX7_consume_X7_own : GoodIn wsX7_consume (wsV RX7 95 RX7 yX7_own wsX7_own) := goodIn_app (goodIn_of _ (by decide +kernel)) ggX7_consume_X7_own
set_option maxRecDepth 20000 in
theorem ggX7_consume_X7_in : GoodIn wsX7_consume wsX7_in := goodIn_r _ [17] (by decide +kernel) (by decide +kernel)
set_option maxRecDepth 20000 in
theorem gX7_consume_X7_in : GoodIn wsX7_consume (va_wsS RX7 76 yX7_in wsX7_in) := goodIn_app (goodIn_of _ (by decide +kernel)) ggX7_consume_X7_in
set_option maxRecDepth 20000 in
theorem ggX7_consume_X7_firstOpen : GoodIn wsX7_consume wsX7_firstOpen := goodIn_r _ [32, 1, 33, 34, 35, 36, 37, 38, 39, 40, 41, 42, 11, 43, 44, 45, 46, 47, 48, 49, 50] (by decide +kernel) (by decide +kernel)
set_option maxRecDepth 20000 in
theorem gX7_consume_X7_firstOpen : GoodIn wsX7_consume (va_wsS RX7 169 yX7_firstOpen wsX7_firstOpen) := goodIn_app (goodIn_of _ (by decide +kernel)) ggX7_consume_X7_firstOpen
set_option maxRecDepth 20000 in
theorem ggX7_consume_X6_get : GoodIn wsX7_consume wsX6_get := goodIn_r _ [38, 39, 40, 44, 45, 46, 47, 48, 49, 50] (by decide +kernel) (by decide +kernel)
set_option maxRecDepth 20000 in
theorem gX7_consume_X6_get : GoodIn wsX7_consume (wsV RX7 137 RX6 yX6_get wsX6_get) := goodIn_app (goodIn_of _ (by decide +kernel)) ggX7_consume_X6_get
set_option maxRecDepth 20000 in
theorem ggX7_consume_X7_endOf : GoodIn wsX7_consume wsX7_endOf := goodIn_r _ [43, 33, 34, 35, 36, 37, 38, 39, 40, 44, 45, 46, 47, 48, 49, 50] (by decide +kernel) (by decide +kernel)
set_option maxRecDepth 20000 in
theorem gX7_consume_X7_endOf : GoodIn wsX7_consume (va_wsS RX7 165 yX7_endOf wsX7_endOf) := goodIn_app (goodIn_of _ (by decide +kernel)) ggX7_consume_X7_endOf
theorem dX7_consume_0 : decode cX7_consume 0 = .ok (.aload_n 0, 1) := by decide +kernel
theorem dX7_consume_1 : decode cX7_consume 1 = .ok (.iload_n 1, 1) := by decide +kernel
theorem dX7_consume_2 : decode cX7_consume 2 = .ok (.invokevirtual 82, 3) := by decide +kernel
theorem dX7_consume_5 : decode cX7_consume 5 = .ok (.ifCond .ne 5, 3) := by decide +kernel
theorem dX7_consume_8 : decode cX7_consume 8 = .ok (.iconst (-1), 1) := by decide +kernel
theorem dX7_consume_9 : decode cX7_consume 9 = .ok (.ireturn, 1) := by decide +kernel
theorem dX7_consume_10 : decode cX7_consume 10 = .ok (.aload_n 0, 1) := by decide +kernel
theorem dX7_consume_11 : decode cX7_consume 11 = .ok (.iload_n 1, 1) := by decide +kernel
theorem dX7_consume_12 : decode cX7_consume 12 = .ok (.invokevirtual 95, 3) := by decide +kernel
theorem dX7_consume_15 : decode cX7_consume 15 = .ok (.astore 4, 2) := by decide +kernel
theorem dX7_consume_17 : decode cX7_consume 17 = .ok (.aload 4, 2) := by decide +kernel
theorem dX7_consume_19 : decode cX7_consume 19 = .ok (.ifnonnull 6, 3) := by decide +kernel
theorem dX7_consume_22 : decode cX7_consume 22 = .ok (.bipush (-2), 2) := by decide +kernel
theorem dX7_consume_24 : decode cX7_consume 24 = .ok (.ireturn, 1) := by decide +kernel
theorem dX7_consume_25 : decode cX7_consume 25 = .ok (.iload_n 2, 1) := by decide +kernel
theorem dX7_consume_26 : decode cX7_consume 26 = .ok (.i2l, 1) := by decide +kernel
theorem dX7_consume_27 : decode cX7_consume 27 = .ok (.aload 4, 2) := by decide +kernel
theorem dX7_consume_29 : decode cX7_consume 29 = .ok (.getfield 134, 3) := by decide +kernel
theorem dX7_consume_32 : decode cX7_consume 32 = .ok (.i2l, 1) := by decide +kernel
theorem dX7_consume_33 : decode cX7_consume 33 = .ok (.aload 4, 2) := by decide +kernel
theorem dX7_consume_35 : decode cX7_consume 35 = .ok (.getfield 109, 3) := by decide +kernel
theorem dX7_consume_38 : decode cX7_consume 38 = .ok (.i2l, 1) := by decide +kernel
theorem dX7_consume_39 : decode cX7_consume 39 = .ok (.invokestatic 76, 3) := by decide +kernel
theorem dX7_consume_42 : decode cX7_consume 42 = .ok (.ifCond .ne 5, 3) := by decide +kernel
theorem dX7_consume_45 : decode cX7_consume 45 = .ok (.iconst (-1), 1) := by decide +kernel
theorem dX7_consume_46 : decode cX7_consume 46 = .ok (.ireturn, 1) := by decide +kernel
theorem dX7_consume_47 : decode cX7_consume 47 = .ok (.iload_n 3, 1) := by decide +kernel
theorem dX7_consume_48 : decode cX7_consume 48 = .ok (.ifCond .eq 19, 3) := by decide +kernel
theorem dX7_consume_51 : decode cX7_consume 51 = .ok (.aload 4, 2) := by decide +kernel
theorem dX7_consume_53 : decode cX7_consume 53 = .ok (.getfield 109, 3) := by decide +kernel
theorem dX7_consume_56 : decode cX7_consume 56 = .ok (.aload 4, 2) := by decide +kernel
theorem dX7_consume_58 : decode cX7_consume 58 = .ok (.invokestatic 169, 3) := by decide +kernel
theorem dX7_consume_61 : decode cX7_consume 61 = .ok (.invokestatic 105, 3) := by decide +kernel
theorem dX7_consume_64 : decode cX7_consume 64 = .ok (.goto 8, 3) := by decide +kernel
theorem dX7_consume_67 : decode cX7_consume 67 = .ok (.aload 4, 2) := by decide +kernel
theorem dX7_consume_69 : decode cX7_consume 69 = .ok (.getfield 109, 3) := by decide +kernel
theorem dX7_consume_72 : decode cX7_consume 72 = .ok (.istore 5, 2) := by decide +kernel
theorem dX7_consume_74 : decode cX7_consume 74 = .ok (.iload_n 2, 1) := by decide +kernel
theorem dX7_consume_75 : decode cX7_consume 75 = .ok (.istore 6, 2) := by decide +kernel
theorem dX7_consume_77 : decode cX7_consume 77 = .ok (.iload 6, 2) := by decide +kernel
theorem dX7_consume_79 : decode cX7_consume 79 = .ok (.iload 5, 2) := by decide +kernel
theorem dX7_consume_81 : decode cX7_consume 81 = .ok (.if_icmp .ge 102, 3) := by decide +kernel
theorem dX7_consume_84 : decode cX7_consume 84 = .ok (.aload 4, 2) := by decide +kernel
theorem dX7_consume_86 : decode cX7_consume 86 = .ok (.iload 6, 2) := by decide +kernel
theorem dX7_consume_88 : decode cX7_consume 88 = .ok (.iconst 1, 1) := by decide +kernel
theorem dX7_consume_89 : decode cX7_consume 89 = .ok (.invokevirtual 137, 3) := by decide +kernel
theorem dX7_consume_92 : decode cX7_consume 92 = .ok (.ifCond .ne 85, 3) := by decide +kernel
theorem dX7_consume_95 : decode cX7_consume 95 = .ok (.iload_n 3, 1) := by decide +kernel
theorem dX7_consume_96 : decode cX7_consume 96 = .ok (.ifCond .eq 30, 3) := by decide +kernel
theorem dX7_consume_99 : decode cX7_consume 99 = .ok (.aload 4, 2) := by decide +kernel
theorem dX7_consume_101 : decode cX7_consume 101 = .ok (.iload 6, 2) := by decide +kernel
theorem dX7_consume_103 : decode cX7_consume 103 = .ok (.bipush 7, 2) := by decide +kernel
theorem dX7_consume_105 : decode cX7_consume 105 = .ok (.invokevirtual 137, 3) := by decide +kernel
theorem dX7_consume_108 : decode cX7_consume 108 = .ok (.iconst 1, 1) := by decide +kernel
theorem dX7_consume_109 : decode cX7_consume 109 = .ok (.if_icmp .ne 17, 3) := by decide +kernel
theorem dX7_consume_112 : decode cX7_consume 112 = .ok (.aload 4, 2) := by decide +kernel
theorem dX7_consume_114 : decode cX7_consume 114 = .ok (.iload 6, 2) := by decide +kernel
theorem dX7_consume_116 : decode cX7_consume 116 = .ok (.invokestatic 165, 3) := by decide +kernel
theorem dX7_consume_119 : decode cX7_consume 119 = .ok (.iconst 2, 1) := by decide +kernel
theorem dX7_consume_120 : decode cX7_consume 120 = .ok (.if_icmp .ne 6, 3) := by decide +kernel
theorem dX7_consume_123 : decode cX7_consume 123 = .ok (.goto 54, 3) := by decide +kernel
theorem dX7_consume_126 : decode cX7_consume 126 = .ok (.aload_n 0, 1) := by decide +kernel
theorem dX7_consume_127 : decode cX7_consume 127 = .ok (.getfield 58, 3) := by decide +kernel
theorem dX7_consume_130 : decode cX7_consume 130 = .ok (.iconst 0, 1) := by decide +kernel
theorem dX7_consume_131 : decode cX7_consume 131 = .ok (.aload 4, 2) := by decide +kernel
theorem dX7_consume_133 : decode cX7_consume 133 = .ok (.iload 6, 2) := by decide +kernel
theorem dX7_consume_135 : decode cX7_consume 135 = .ok (.iconst 0, 1) := by decide +kernel
theorem dX7_consume_136 : decode cX7_consume 136 = .ok (.invokevirtual 137, 3) := by decide +kernel
theorem dX7_consume_139 : decode cX7_consume 139 = .ok (.iastore, 1) := by decide +kernel
theorem dX7_consume_140 : decode cX7_consume 140 = .ok (.iconst 1, 1) := by decide +kernel
theorem dX7_consume_141 : decode cX7_consume 141 = .ok (.istore 7, 2) := by decide +kernel
theorem dX7_consume_143 : decode cX7_consume 143 = .ok (.iload 7, 2) := by decide +kernel
theorem dX7_consume_145 : decode cX7_consume 145 = .ok (.bipush 6, 2) := by decide +kernel
theorem dX7_consume_147 : decode cX7_consume 147 = .ok (.if_icmp .ge 27, 3) := by decide +kernel
theorem dX7_consume_150 : decode cX7_consume 150 = .ok (.aload_n 0, 1) := by decide +kernel
theorem dX7_consume_151 : decode cX7_consume 151 = .ok (.getfield 58, 3) := by decide +kernel
theorem dX7_consume_154 : decode cX7_consume 154 = .ok (.iload 7, 2) := by decide +kernel
theorem dX7_consume_156 : decode cX7_consume 156 = .ok (.aload 4, 2) := by decide +kernel
theorem dX7_consume_158 : decode cX7_consume 158 = .ok (.iload 6, 2) := by decide +kernel
theorem dX7_consume_160 : decode cX7_consume 160 = .ok (.iload 7, 2) := by decide +kernel
theorem dX7_consume_162 : decode cX7_consume 162 = .ok (.iconst 1, 1) := by decide +kernel
theorem dX7_consume_163 : decode cX7_consume 163 = .ok (.iadd, 1) := by decide +kernel
theorem dX7_consume_164 : decode cX7_consume 164 = .ok (.invokevirtual 137, 3) := by decide +kernel
theorem dX7_consume_167 : decode cX7_consume 167 = .ok (.iastore, 1) := by decide +kernel
theorem dX7_consume_168 : decode cX7_consume 168 = .ok (.iinc 7 1, 3) := by decide +kernel
theorem dX7_consume_171 : decode cX7_consume 171 = .ok (.goto (-28), 3) := by decide +kernel
theorem dX7_consume_174 : decode cX7_consume 174 = .ok (.iload 6, 2) := by decide +kernel
theorem dX7_consume_176 : decode cX7_consume 176 = .ok (.ireturn, 1) := by decide +kernel
theorem dX7_consume_177 : decode cX7_consume 177 = .ok (.iinc 6 1, 3) := by decide +kernel
theorem dX7_consume_180 : decode cX7_consume 180 = .ok (.goto (-103), 3) := by decide +kernel
theorem dX7_consume_183 : decode cX7_consume 183 = .ok (.bipush (-2), 2) := by decide +kernel
theorem dX7_consume_185 : decode cX7_consume 185 = .ok (.ireturn, 1) := by decide +kernel
set_option maxRecDepth 20000 in
theorem ggX7_seen_X7_in : GoodIn wsX7_seen wsX7_in := goodIn_r _ [6] (by decide +kernel) (by decide +kernel)
set_option maxRecDepth 20000 in
theorem gX7_seen_X7_in : GoodIn wsX7_seen (va_wsS RX7 76 yX7_in wsX7_in) := goodIn_app (goodIn_of _ (by decide +kernel)) ggX7_seen_X7_in
theorem dX7_seen_0 : decode cX7_seen 0 = .ok (.iload_n 1, 1) := by decide +kernel
theorem dX7_seen_1 : decode cX7_seen 1 = .ok (.i2l, 1) := by decide +kernel
theorem dX7_seen_2 : decode cX7_seen 2 = .ok (.lconst 0, 1) := by decide +kernel
theorem dX7_seen_3 : decode cX7_seen 3 = .ok (.ldc2_w 129, 3) := by decide +kernel
theorem dX7_seen_6 : decode cX7_seen 6 = .ok (.invokestatic 76, 3) := by decide +kernel
theorem dX7_seen_9 : decode cX7_seen 9 = .ok (.ifCond .eq 12, 3) := by decide +kernel
theorem dX7_seen_12 : decode cX7_seen 12 = .ok (.aload_n 0, 1) := by decide +kernel
theorem dX7_seen_13 : decode cX7_seen 13 = .ok (.getfield 58, 3) := by decide +kernel
theorem dX7_seen_16 : decode cX7_seen 16 = .ok (.iload_n 1, 1) := by decide +kernel
theorem dX7_seen_17 : decode cX7_seen 17 = .ok (.iaload, 1) := by decide +kernel
theorem dX7_seen_18 : decode cX7_seen 18 = .ok (.goto 4, 3) := by decide +kernel
theorem dX7_seen_21 : decode cX7_seen 21 = .ok (.iconst 0, 1) := by decide +kernel
theorem dX7_seen_22 : decode cX7_seen 22 = .ok (.ireturn, 1) := by decide +kernel
set_option maxRecDepth 20000 in
theorem ggX7_member_X7_in : GoodIn wsX7_member wsX7_in := goodIn_r _ [8] (by decide +kernel) (by decide +kernel)
set_option maxRecDepth 20000 in
theorem gX7_member_X7_in : GoodIn wsX7_member (va_wsS RX7 76 yX7_in wsX7_in) := goodIn_app (goodIn_of _ (by decide +kernel)) ggX7_member_X7_in
theorem dX7_member_0 : decode cX7_member 0 = .ok (.iload_n 1, 1) := by decide +kernel
theorem dX7_member_1 : decode cX7_member 1 = .ok (.i2l, 1) := by decide +kernel
theorem dX7_member_2 : decode cX7_member 2 = .ok (.lconst 0, 1) := by decide +kernel
theorem dX7_member_3 : decode cX7_member 3 = .ok (.ldc2_w 80, 3) := by decide +kernel
theorem dX7_member_6 : decode cX7_member 6 = .ok (.invokestatic 76, 3) := by decide +kernel
theorem dX7_member_9 : decode cX7_member 9 = .ok (.ifCond .eq 15, 3) := by decide +kernel
theorem dX7_member_12 : decode cX7_member 12 = .ok (.iload_n 2, 1) := by decide +kernel
theorem dX7_member_13 : decode cX7_member 13 = .ok (.i2l, 1) := by decide +kernel
theorem dX7_member_14 : decode cX7_member 14 = .ok (.lconst 0, 1) := by decide +kernel
theorem dX7_member_15 : decode cX7_member 15 = .ok (.ldc2_w 173, 3) := by decide +kernel
theorem dX7_member_18 : decode cX7_member 18 = .ok (.invokestatic 76, 3) := by decide +kernel
theorem dX7_member_21 : decode cX7_member 21 = .ok (.ifCond .ne 5, 3) := by decide +kernel
theorem dX7_member_24 : decode cX7_member 24 = .ok (.iconst (-1), 1) := by decide +kernel
theorem dX7_member_25 : decode cX7_member 25 = .ok (.ireturn, 1) := by decide +kernel
theorem dX7_member_26 : decode cX7_member 26 = .ok (.aload_n 0, 1) := by decide +kernel
theorem dX7_member_27 : decode cX7_member 27 = .ok (.getfield 49, 3) := by decide +kernel
theorem dX7_member_30 : decode cX7_member 30 = .ok (.iload_n 1, 1) := by decide +kernel
theorem dX7_member_31 : decode cX7_member 31 = .ok (.dup2, 1) := by decide +kernel
theorem dX7_member_32 : decode cX7_member 32 = .ok (.iaload, 1) := by decide +kernel
theorem dX7_member_33 : decode cX7_member 33 = .ok (.iconst 1, 1) := by decide +kernel
theorem dX7_member_34 : decode cX7_member 34 = .ok (.iload_n 2, 1) := by decide +kernel
theorem dX7_member_35 : decode cX7_member 35 = .ok (.ishl, 1) := by decide +kernel
theorem dX7_member_36 : decode cX7_member 36 = .ok (.ixor, 1) := by decide +kernel
theorem dX7_member_37 : decode cX7_member 37 = .ok (.iastore, 1) := by decide +kernel
theorem dX7_member_38 : decode cX7_member 38 = .ok (.aload_n 0, 1) := by decide +kernel
theorem dX7_member_39 : decode cX7_member 39 = .ok (.getfield 52, 3) := by decide +kernel
theorem dX7_member_42 : decode cX7_member 42 = .ok (.iload_n 1, 1) := by decide +kernel
theorem dX7_member_43 : decode cX7_member 43 = .ok (.dup2, 1) := by decide +kernel
theorem dX7_member_44 : decode cX7_member 44 = .ok (.iaload, 1) := by decide +kernel
theorem dX7_member_45 : decode cX7_member 45 = .ok (.iconst 1, 1) := by decide +kernel
theorem dX7_member_46 : decode cX7_member 46 = .ok (.iadd, 1) := by decide +kernel
theorem dX7_member_47 : decode cX7_member 47 = .ok (.iastore, 1) := by decide +kernel
theorem dX7_member_48 : decode cX7_member 48 = .ok (.aload_n 0, 1) := by decide +kernel
theorem dX7_member_49 : decode cX7_member 49 = .ok (.getfield 52, 3) := by decide +kernel
theorem dX7_member_52 : decode cX7_member 52 = .ok (.iload_n 1, 1) := by decide +kernel
theorem dX7_member_53 : decode cX7_member 53 = .ok (.iaload, 1) := by decide +kernel
theorem dX7_member_54 : decode cX7_member 54 = .ok (.ireturn, 1) := by decide +kernel
set_option maxRecDepth 20000 in
theorem ggX7_owner_X7_in : GoodIn wsX7_owner wsX7_in := goodIn_r _ [7] (by decide +kernel) (by decide +kernel)
set_option maxRecDepth 20000 in
theorem gX7_owner_X7_in : GoodIn wsX7_owner (va_wsS RX7 76 yX7_in wsX7_in) := goodIn_app (goodIn_of _ (by decide +kernel)) ggX7_owner_X7_in
set_option maxRecDepth 20000 in
theorem ggX7_owner_X7_isThere : GoodIn wsX7_owner wsX7_isThere := goodIn_r _ [11, 1, 3, 4, 5, 6, 7, 19, 20, 21, 22, 23, 24, 25, 26, 27, 28, 29, 30, 31, 32, 33, 34, 35, 36] (by decide +kernel) (by decide +kernel)
set_option maxRecDepth 20000 in
theorem gX7_owner_X7_isThere : GoodIn wsX7_owner (wsV RX7 82 RX7 yX7_isThere wsX7_isThere) := goodIn_app (goodIn_of _ (by decide +kernel)) ggX7_owner_X7_isThere
set_option maxRecDepth 20000 in
theorem ggX7_owner_J6_bitCount_0f7a4 : GoodIn wsX7_owner wsJ6_bitCount_0f7a4 := goodIn_r _ [15, 16, 17, 18] (by decide +kernel) (by decide +kernel)
set_option maxRecDepth 20000 in
theorem gX7_owner_J6_bitCount_0f7a4 : GoodIn wsX7_owner (va_wsS RX7 112 yJ6_bitCount_0f7a4 wsJ6_bitCount_0f7a4) := goodIn_app (goodIn_of _ (by decide +kernel)) ggX7_owner_J6_bitCount_0f7a4
theorem dX7_owner_0 : decode cX7_owner 0 = .ok (.iload_n 1, 1) := by decide +kernel
theorem dX7_owner_1 : decode cX7_owner 1 = .ok (.i2l, 1) := by decide +kernel
theorem dX7_owner_2 : decode cX7_owner 2 = .ok (.lconst 0, 1) := by decide +kernel
theorem dX7_owner_3 : decode cX7_owner 3 = .ok (.ldc2_w 80, 3) := by decide +kernel
theorem dX7_owner_6 : decode cX7_owner 6 = .ok (.invokestatic 76, 3) := by decide +kernel
theorem dX7_owner_9 : decode cX7_owner 9 = .ok (.ifCond .eq 11, 3) := by decide +kernel
theorem dX7_owner_12 : decode cX7_owner 12 = .ok (.aload_n 0, 1) := by decide +kernel
theorem dX7_owner_13 : decode cX7_owner 13 = .ok (.iload_n 2, 1) := by decide +kernel
theorem dX7_owner_14 : decode cX7_owner 14 = .ok (.invokevirtual 82, 3) := by decide +kernel
theorem dX7_owner_17 : decode cX7_owner 17 = .ok (.ifCond .ne 5, 3) := by decide +kernel
theorem dX7_owner_20 : decode cX7_owner 20 = .ok (.iconst (-1), 1) := by decide +kernel
theorem dX7_owner_21 : decode cX7_owner 21 = .ok (.ireturn, 1) := by decide +kernel
theorem dX7_owner_22 : decode cX7_owner 22 = .ok (.aload_n 0, 1) := by decide +kernel
theorem dX7_owner_23 : decode cX7_owner 23 = .ok (.getfield 49, 3) := by decide +kernel
theorem dX7_owner_26 : decode cX7_owner 26 = .ok (.iload_n 1, 1) := by decide +kernel
theorem dX7_owner_27 : decode cX7_owner 27 = .ok (.iaload, 1) := by decide +kernel
theorem dX7_owner_28 : decode cX7_owner 28 = .ok (.invokestatic 112, 3) := by decide +kernel
theorem dX7_owner_31 : decode cX7_owner 31 = .ok (.istore_n 3, 1) := by decide +kernel
theorem dX7_owner_32 : decode cX7_owner 32 = .ok (.iconst 0, 1) := by decide +kernel
theorem dX7_owner_33 : decode cX7_owner 33 = .ok (.istore 4, 2) := by decide +kernel
theorem dX7_owner_35 : decode cX7_owner 35 = .ok (.iload_n 3, 1) := by decide +kernel
theorem dX7_owner_36 : decode cX7_owner 36 = .ok (.ifCond .ne 6, 3) := by decide +kernel
theorem dX7_owner_39 : decode cX7_owner 39 = .ok (.bipush (-2), 2) := by decide +kernel
theorem dX7_owner_41 : decode cX7_owner 41 = .ok (.ireturn, 1) := by decide +kernel
theorem dX7_owner_42 : decode cX7_owner 42 = .ok (.iconst 0, 1) := by decide +kernel
theorem dX7_owner_43 : decode cX7_owner 43 = .ok (.istore 5, 2) := by decide +kernel
theorem dX7_owner_45 : decode cX7_owner 45 = .ok (.iload 5, 2) := by decide +kernel
theorem dX7_owner_47 : decode cX7_owner 47 = .ok (.iload_n 2, 1) := by decide +kernel
theorem dX7_owner_48 : decode cX7_owner 48 = .ok (.if_icmp .ge 22, 3) := by decide +kernel
theorem dX7_owner_51 : decode cX7_owner 51 = .ok (.aload_n 0, 1) := by decide +kernel
theorem dX7_owner_52 : decode cX7_owner 52 = .ok (.getfield 14, 3) := by decide +kernel
theorem dX7_owner_55 : decode cX7_owner 55 = .ok (.iload 5, 2) := by decide +kernel
theorem dX7_owner_57 : decode cX7_owner 57 = .ok (.baload, 1) := by decide +kernel
theorem dX7_owner_58 : decode cX7_owner 58 = .ok (.ifCond .eq 6, 3) := by decide +kernel
theorem dX7_owner_61 : decode cX7_owner 61 = .ok (.iinc 4 1, 3) := by decide +kernel
theorem dX7_owner_64 : decode cX7_owner 64 = .ok (.iinc 5 1, 3) := by decide +kernel
theorem dX7_owner_67 : decode cX7_owner 67 = .ok (.goto (-22), 3) := by decide +kernel
theorem dX7_owner_70 : decode cX7_owner 70 = .ok (.iload 4, 2) := by decide +kernel
theorem dX7_owner_72 : decode cX7_owner 72 = .ok (.iload_n 3, 1) := by decide +kernel
theorem dX7_owner_73 : decode cX7_owner 73 = .ok (.irem, 1) := by decide +kernel
theorem dX7_owner_74 : decode cX7_owner 74 = .ok (.istore 4, 2) := by decide +kernel
theorem dX7_owner_76 : decode cX7_owner 76 = .ok (.iconst 0, 1) := by decide +kernel
theorem dX7_owner_77 : decode cX7_owner 77 = .ok (.istore 5, 2) := by decide +kernel
theorem dX7_owner_79 : decode cX7_owner 79 = .ok (.iload 5, 2) := by decide +kernel
theorem dX7_owner_81 : decode cX7_owner 81 = .ok (.bipush 8, 2) := by decide +kernel
theorem dX7_owner_83 : decode cX7_owner 83 = .ok (.if_icmp .ge 37, 3) := by decide +kernel
theorem dX7_owner_86 : decode cX7_owner 86 = .ok (.aload_n 0, 1) := by decide +kernel
theorem dX7_owner_87 : decode cX7_owner 87 = .ok (.getfield 49, 3) := by decide +kernel
theorem dX7_owner_90 : decode cX7_owner 90 = .ok (.iload_n 1, 1) := by decide +kernel
theorem dX7_owner_91 : decode cX7_owner 91 = .ok (.iaload, 1) := by decide +kernel
theorem dX7_owner_92 : decode cX7_owner 92 = .ok (.iload 5, 2) := by decide +kernel
theorem dX7_owner_94 : decode cX7_owner 94 = .ok (.ishr, 1) := by decide +kernel
theorem dX7_owner_95 : decode cX7_owner 95 = .ok (.iconst 1, 1) := by decide +kernel
theorem dX7_owner_96 : decode cX7_owner 96 = .ok (.iand, 1) := by decide +kernel
theorem dX7_owner_97 : decode cX7_owner 97 = .ok (.ifCond .ne 6, 3) := by decide +kernel
theorem dX7_owner_100 : decode cX7_owner 100 = .ok (.goto 14, 3) := by decide +kernel
theorem dX7_owner_103 : decode cX7_owner 103 = .ok (.iload 4, 2) := by decide +kernel
theorem dX7_owner_105 : decode cX7_owner 105 = .ok (.ifCond .ne 6, 3) := by decide +kernel
theorem dX7_owner_108 : decode cX7_owner 108 = .ok (.iload 5, 2) := by decide +kernel
theorem dX7_owner_110 : decode cX7_owner 110 = .ok (.ireturn, 1) := by decide +kernel
theorem dX7_owner_111 : decode cX7_owner 111 = .ok (.iinc 4 (-1), 3) := by decide +kernel
theorem dX7_owner_114 : decode cX7_owner 114 = .ok (.iinc 5 1, 3) := by decide +kernel
theorem dX7_owner_117 : decode cX7_owner 117 = .ok (.goto (-38), 3) := by decide +kernel
theorem dX7_owner_120 : decode cX7_owner 120 = .ok (.bipush (-2), 2) := by decide +kernel
theorem dX7_owner_122 : decode cX7_owner 122 = .ok (.ireturn, 1) := by decide +kernel
set_option maxRecDepth 20000 in
theorem ggX7_move_X7_in : GoodIn wsX7_move wsX7_in := goodIn_r _ [8] (by decide +kernel) (by decide +kernel)
set_option maxRecDepth 20000 in
theorem gX7_move_X7_in : GoodIn wsX7_move (va_wsS RX7 76 yX7_in wsX7_in) := goodIn_app (goodIn_of _ (by decide +kernel)) ggX7_move_X7_in
set_option maxRecDepth 20000 in
theorem ggX7_move_X7_isThere : GoodIn wsX7_move wsX7_isThere := goodIn_r _ [12, 1, 13, 5, 6, 7, 8, 26, 27, 28, 29, 30, 31, 32, 33, 34, 35, 36, 37, 38, 39, 40, 41, 42, 43] (by decide +kernel) (by decide +kernel)
set_option maxRecDepth 20000 in
theorem gX7_move_X7_isThere : GoodIn wsX7_move (wsV RX7 82 RX7 yX7_isThere wsX7_isThere) := goodIn_app (goodIn_of _ (by decide +kernel)) ggX7_move_X7_isThere
set_option maxRecDepth 20000 in
theorem ggX7_move_X7_owner : GoodIn wsX7_move wsX7_owner := goodIn_r _ [17, 1, 18, 13, 5, 6, 7, 8, 9, 10, 11, 12, 19, 20, 21, 22, 23, 24, 25, 26, 27, 28, 29, 30, 31, 32, 33, 34, 35, 36, 37, 38, 39, 40, 41, 42, 43] (by decide +kernel) (by decide +kernel)
set_option maxRecDepth 20000 in
theorem gX7_move_X7_owner : GoodIn wsX7_move (wsV RX7 175 RX7 yX7_owner wsX7_owner) := goodIn_app (goodIn_of _ (by decide +kernel)) ggX7_move_X7_owner
theorem dX7_move_0 : decode cX7_move 0 = .ok (.iload 5, 2) := by decide +kernel
theorem dX7_move_2 : decode cX7_move 2 = .ok (.ifCond .lt 24, 3) := by decide +kernel
theorem dX7_move_5 : decode cX7_move 5 = .ok (.iload_n 1, 1) := by decide +kernel
theorem dX7_move_6 : decode cX7_move 6 = .ok (.i2l, 1) := by decide +kernel
theorem dX7_move_7 : decode cX7_move 7 = .ok (.lconst 0, 1) := by decide +kernel
theorem dX7_move_8 : decode cX7_move 8 = .ok (.ldc2_w 80, 3) := by decide +kernel
theorem dX7_move_11 : decode cX7_move 11 = .ok (.invokestatic 76, 3) := by decide +kernel
theorem dX7_move_14 : decode cX7_move 14 = .ok (.ifCond .eq 12, 3) := by decide +kernel
theorem dX7_move_17 : decode cX7_move 17 = .ok (.aload_n 0, 1) := by decide +kernel
theorem dX7_move_18 : decode cX7_move 18 = .ok (.iload 4, 2) := by decide +kernel
theorem dX7_move_20 : decode cX7_move 20 = .ok (.invokevirtual 82, 3) := by decide +kernel
theorem dX7_move_23 : decode cX7_move 23 = .ok (.ifCond .ne 5, 3) := by decide +kernel
theorem dX7_move_26 : decode cX7_move 26 = .ok (.iconst (-1), 1) := by decide +kernel
theorem dX7_move_27 : decode cX7_move 27 = .ok (.ireturn, 1) := by decide +kernel
theorem dX7_move_28 : decode cX7_move 28 = .ok (.iload_n 2, 1) := by decide +kernel
theorem dX7_move_29 : decode cX7_move 29 = .ok (.i2l, 1) := by decide +kernel
theorem dX7_move_30 : decode cX7_move 30 = .ok (.lconst 0, 1) := by decide +kernel
theorem dX7_move_31 : decode cX7_move 31 = .ok (.ldc2_w 173, 3) := by decide +kernel
theorem dX7_move_34 : decode cX7_move 34 = .ok (.invokestatic 76, 3) := by decide +kernel
theorem dX7_move_37 : decode cX7_move 37 = .ok (.ifCond .eq 24, 3) := by decide +kernel
theorem dX7_move_40 : decode cX7_move 40 = .ok (.aload_n 0, 1) := by decide +kernel
theorem dX7_move_41 : decode cX7_move 41 = .ok (.iload_n 1, 1) := by decide +kernel
theorem dX7_move_42 : decode cX7_move 42 = .ok (.iload 4, 2) := by decide +kernel
theorem dX7_move_44 : decode cX7_move 44 = .ok (.invokevirtual 175, 3) := by decide +kernel
theorem dX7_move_47 : decode cX7_move 47 = .ok (.iload_n 2, 1) := by decide +kernel
theorem dX7_move_48 : decode cX7_move 48 = .ok (.if_icmp .ne 13, 3) := by decide +kernel
theorem dX7_move_51 : decode cX7_move 51 = .ok (.aload_n 0, 1) := by decide +kernel
theorem dX7_move_52 : decode cX7_move 52 = .ok (.getfield 52, 3) := by decide +kernel
theorem dX7_move_55 : decode cX7_move 55 = .ok (.iload_n 1, 1) := by decide +kernel
theorem dX7_move_56 : decode cX7_move 56 = .ok (.iaload, 1) := by decide +kernel
theorem dX7_move_57 : decode cX7_move 57 = .ok (.iload_n 3, 1) := by decide +kernel
theorem dX7_move_58 : decode cX7_move 58 = .ok (.if_icmp .eq 6, 3) := by decide +kernel
theorem dX7_move_61 : decode cX7_move 61 = .ok (.bipush (-4), 2) := by decide +kernel
theorem dX7_move_63 : decode cX7_move 63 = .ok (.ireturn, 1) := by decide +kernel
theorem dX7_move_64 : decode cX7_move 64 = .ok (.aload_n 0, 1) := by decide +kernel
theorem dX7_move_65 : decode cX7_move 65 = .ok (.getfield 55, 3) := by decide +kernel
theorem dX7_move_68 : decode cX7_move 68 = .ok (.iconst 4, 1) := by decide +kernel
theorem dX7_move_69 : decode cX7_move 69 = .ok (.iload_n 1, 1) := by decide +kernel
theorem dX7_move_70 : decode cX7_move 70 = .ok (.imul, 1) := by decide +kernel
theorem dX7_move_71 : decode cX7_move 71 = .ok (.iload 4, 2) := by decide +kernel
theorem dX7_move_73 : decode cX7_move 73 = .ok (.iadd, 1) := by decide +kernel
theorem dX7_move_74 : decode cX7_move 74 = .ok (.iload 5, 2) := by decide +kernel
theorem dX7_move_76 : decode cX7_move 76 = .ok (.iastore, 1) := by decide +kernel
theorem dX7_move_77 : decode cX7_move 77 = .ok (.iconst 0, 1) := by decide +kernel
theorem dX7_move_78 : decode cX7_move 78 = .ok (.ireturn, 1) := by decide +kernel
set_option maxRecDepth 20000 in
theorem ggX7_position_X7_in : GoodIn wsX7_position wsX7_in := goodIn_r _ [6] (by decide +kernel) (by decide +kernel)
set_option maxRecDepth 20000 in
theorem gX7_position_X7_in : GoodIn wsX7_position (va_wsS RX7 76 yX7_in wsX7_in) := goodIn_app (goodIn_of _ (by decide +kernel)) ggX7_position_X7_in
set_option maxRecDepth 20000 in
theorem ggX7_position_X7_isThere : GoodIn wsX7_position wsX7_isThere := goodIn_r _ [10, 1, 11, 3, 4, 5, 6, 12, 13, 14, 15, 16, 17, 18, 19, 20, 21, 22, 23, 24, 25, 26, 27, 28, 29] (by decide +kernel) (by decide +kernel)
set_option maxRecDepth 20000 in
theorem gX7_position_X7_isThere : GoodIn wsX7_position (wsV RX7 82 RX7 yX7_isThere wsX7_isThere) := goodIn_app (goodIn_of _ (by decide +kernel)) ggX7_position_X7_isThere
theorem dX7_position_0 : decode cX7_position 0 = .ok (.iload_n 1, 1) := by decide +kernel
theorem dX7_position_1 : decode cX7_position 1 = .ok (.i2l, 1) := by decide +kernel
theorem dX7_position_2 : decode cX7_position 2 = .ok (.lconst 0, 1) := by decide +kernel
theorem dX7_position_3 : decode cX7_position 3 = .ok (.ldc2_w 80, 3) := by decide +kernel
theorem dX7_position_6 : decode cX7_position 6 = .ok (.invokestatic 76, 3) := by decide +kernel
theorem dX7_position_9 : decode cX7_position 9 = .ok (.ifCond .eq 24, 3) := by decide +kernel
theorem dX7_position_12 : decode cX7_position 12 = .ok (.aload_n 0, 1) := by decide +kernel
theorem dX7_position_13 : decode cX7_position 13 = .ok (.iload_n 2, 1) := by decide +kernel
theorem dX7_position_14 : decode cX7_position 14 = .ok (.invokevirtual 82, 3) := by decide +kernel
theorem dX7_position_17 : decode cX7_position 17 = .ok (.ifCond .eq 16, 3) := by decide +kernel
theorem dX7_position_20 : decode cX7_position 20 = .ok (.aload_n 0, 1) := by decide +kernel
theorem dX7_position_21 : decode cX7_position 21 = .ok (.getfield 55, 3) := by decide +kernel
theorem dX7_position_24 : decode cX7_position 24 = .ok (.iconst 4, 1) := by decide +kernel
theorem dX7_position_25 : decode cX7_position 25 = .ok (.iload_n 1, 1) := by decide +kernel
theorem dX7_position_26 : decode cX7_position 26 = .ok (.imul, 1) := by decide +kernel
theorem dX7_position_27 : decode cX7_position 27 = .ok (.iload_n 2, 1) := by decide +kernel
theorem dX7_position_28 : decode cX7_position 28 = .ok (.iadd, 1) := by decide +kernel
theorem dX7_position_29 : decode cX7_position 29 = .ok (.iaload, 1) := by decide +kernel
theorem dX7_position_30 : decode cX7_position 30 = .ok (.goto 4, 3) := by decide +kernel
theorem dX7_position_33 : decode cX7_position 33 = .ok (.iconst (-1), 1) := by decide +kernel
theorem dX7_position_34 : decode cX7_position 34 = .ok (.ireturn, 1) := by decide +kernel
set_option maxRecDepth 20000 in
theorem ggX7_tick_X7_in : GoodIn wsX7_tick wsX7_in := goodIn_r _ [11] (by decide +kernel) (by decide +kernel)
set_option maxRecDepth 20000 in
theorem gX7_tick_X7_in : GoodIn wsX7_tick (va_wsS RX7 76 yX7_in wsX7_in) := goodIn_app (goodIn_of _ (by decide +kernel)) ggX7_tick_X7_in
set_option maxRecDepth 20000 in
theorem ggX7_tick_X7_own : GoodIn wsX7_tick wsX7_own := goodIn_r _ [15, 5, 6, 16, 17, 18, 10, 19, 20, 21, 8, 9, 11, 38, 39, 40, 41, 42, 43, 44, 45, 46, 47, 48, 49, 50, 51, 52, 53, 54, 55] (by decide +kernel) (by decide +kernel)
set_option maxRecDepth 20000 in
theorem gX7_tick_X7_own : GoodIn wsX7_tick (wsV RX7 95 RX7 yX7_own wsX7_own) := goodIn_app (goodIn_of _ (by decide +kernel)) ggX7_tick_X7_own
set_option maxRecDepth 20000 in
theorem ggX7_tick_X7_rise : GoodIn wsX7_tick wsX7_rise := goodIn_r _ [25, 26, 4, 27, 28, 29, 30, 31, 12, 13, 14, 10, 15, 5, 6, 16, 17, 18, 19, 20, 21, 8, 9, 11, 32, 33, 34, 35, 36, 37, 38, 39, 40, 41, 42, 43, 44, 45, 46, 47, 48, 49, 50, 51, 52, 53, 54, 55, 56, 57, 58, 59, 60, 61, 62] (by decide +kernel) (by decide +kernel)
set_option maxRecDepth 20000 in
theorem gX7_tick_X7_rise : GoodIn wsX7_tick (wsV RX7 125 RX7 yX7_rise wsX7_rise) := goodIn_app (goodIn_of _ (by decide +kernel)) ggX7_tick_X7_rise
theorem dX7_tick_0 : decode cX7_tick 0 = .ok (.iload_n 1, 1) := by decide +kernel
theorem dX7_tick_1 : decode cX7_tick 1 = .ok (.i2l, 1) := by decide +kernel
theorem dX7_tick_2 : decode cX7_tick 2 = .ok (.lconst 1, 1) := by decide +kernel
theorem dX7_tick_3 : decode cX7_tick 3 = .ok (.ldc2_w 178, 3) := by decide +kernel
theorem dX7_tick_6 : decode cX7_tick 6 = .ok (.invokestatic 76, 3) := by decide +kernel
theorem dX7_tick_9 : decode cX7_tick 9 = .ok (.ifCond .ne 5, 3) := by decide +kernel
theorem dX7_tick_12 : decode cX7_tick 12 = .ok (.iconst (-1), 1) := by decide +kernel
theorem dX7_tick_13 : decode cX7_tick 13 = .ok (.ireturn, 1) := by decide +kernel
theorem dX7_tick_14 : decode cX7_tick 14 = .ok (.aload_n 0, 1) := by decide +kernel
theorem dX7_tick_15 : decode cX7_tick 15 = .ok (.dup, 1) := by decide +kernel
theorem dX7_tick_16 : decode cX7_tick 16 = .ok (.getfield 119, 3) := by decide +kernel
theorem dX7_tick_19 : decode cX7_tick 19 = .ok (.iload_n 1, 1) := by decide +kernel
theorem dX7_tick_20 : decode cX7_tick 20 = .ok (.iadd, 1) := by decide +kernel
theorem dX7_tick_21 : decode cX7_tick 21 = .ok (.putfield 119, 3) := by decide +kernel
theorem dX7_tick_24 : decode cX7_tick 24 = .ok (.iconst 0, 1) := by decide +kernel
theorem dX7_tick_25 : decode cX7_tick 25 = .ok (.istore_n 2, 1) := by decide +kernel
theorem dX7_tick_26 : decode cX7_tick 26 = .ok (.iconst 0, 1) := by decide +kernel
theorem dX7_tick_27 : decode cX7_tick 27 = .ok (.istore_n 3, 1) := by decide +kernel
theorem dX7_tick_28 : decode cX7_tick 28 = .ok (.iload_n 3, 1) := by decide +kernel
theorem dX7_tick_29 : decode cX7_tick 29 = .ok (.iconst 4, 1) := by decide +kernel
theorem dX7_tick_30 : decode cX7_tick 30 = .ok (.if_icmp .ge 117, 3) := by decide +kernel
theorem dX7_tick_33 : decode cX7_tick 33 = .ok (.aload_n 0, 1) := by decide +kernel
theorem dX7_tick_34 : decode cX7_tick 34 = .ok (.getfield 14, 3) := by decide +kernel
theorem dX7_tick_37 : decode cX7_tick 37 = .ok (.iload_n 3, 1) := by decide +kernel
theorem dX7_tick_38 : decode cX7_tick 38 = .ok (.baload, 1) := by decide +kernel
theorem dX7_tick_39 : decode cX7_tick 39 = .ok (.ifCond .eq 102, 3) := by decide +kernel
theorem dX7_tick_42 : decode cX7_tick 42 = .ok (.aload_n 0, 1) := by decide +kernel
theorem dX7_tick_43 : decode cX7_tick 43 = .ok (.iload_n 3, 1) := by decide +kernel
theorem dX7_tick_44 : decode cX7_tick 44 = .ok (.invokevirtual 95, 3) := by decide +kernel
theorem dX7_tick_47 : decode cX7_tick 47 = .ok (.ifnonnull 6, 3) := by decide +kernel
theorem dX7_tick_50 : decode cX7_tick 50 = .ok (.goto 91, 3) := by decide +kernel
theorem dX7_tick_53 : decode cX7_tick 53 = .ok (.iconst 0, 1) := by decide +kernel
theorem dX7_tick_54 : decode cX7_tick 54 = .ok (.istore 4, 2) := by decide +kernel
theorem dX7_tick_56 : decode cX7_tick 56 = .ok (.iload 4, 2) := by decide +kernel
theorem dX7_tick_58 : decode cX7_tick 58 = .ok (.iconst 5, 1) := by decide +kernel
theorem dX7_tick_59 : decode cX7_tick 59 = .ok (.if_icmp .ge 77, 3) := by decide +kernel
theorem dX7_tick_62 : decode cX7_tick 62 = .ok (.aload_n 0, 1) := by decide +kernel
theorem dX7_tick_63 : decode cX7_tick 63 = .ok (.getfield 31, 3) := by decide +kernel
theorem dX7_tick_66 : decode cX7_tick 66 = .ok (.iload_n 3, 1) := by decide +kernel
theorem dX7_tick_67 : decode cX7_tick 67 = .ok (.iaload, 1) := by decide +kernel
theorem dX7_tick_68 : decode cX7_tick 68 = .ok (.iload 4, 2) := by decide +kernel
theorem dX7_tick_70 : decode cX7_tick 70 = .ok (.ishr, 1) := by decide +kernel
theorem dX7_tick_71 : decode cX7_tick 71 = .ok (.iconst 1, 1) := by decide +kernel
theorem dX7_tick_72 : decode cX7_tick 72 = .ok (.iand, 1) := by decide +kernel
theorem dX7_tick_73 : decode cX7_tick 73 = .ok (.ifCond .eq 57, 3) := by decide +kernel
theorem dX7_tick_76 : decode cX7_tick 76 = .ok (.iload 4, 2) := by decide +kernel
theorem dX7_tick_78 : decode cX7_tick 78 = .ok (.aload_n 0, 1) := by decide +kernel
theorem dX7_tick_79 : decode cX7_tick 79 = .ok (.getfield 22, 3) := by decide +kernel
theorem dX7_tick_82 : decode cX7_tick 82 = .ok (.iload_n 3, 1) := by decide +kernel
theorem dX7_tick_83 : decode cX7_tick 83 = .ok (.iaload, 1) := by decide +kernel
theorem dX7_tick_84 : decode cX7_tick 84 = .ok (.if_icmp .eq 46, 3) := by decide +kernel
theorem dX7_tick_87 : decode cX7_tick 87 = .ok (.aload_n 0, 1) := by decide +kernel
theorem dX7_tick_88 : decode cX7_tick 88 = .ok (.getfield 119, 3) := by decide +kernel
theorem dX7_tick_91 : decode cX7_tick 91 = .ok (.aload_n 0, 1) := by decide +kernel
theorem dX7_tick_92 : decode cX7_tick 92 = .ok (.getfield 11, 3) := by decide +kernel
theorem dX7_tick_95 : decode cX7_tick 95 = .ok (.iload_n 3, 1) := by decide +kernel
theorem dX7_tick_96 : decode cX7_tick 96 = .ok (.aaload, 1) := by decide +kernel
theorem dX7_tick_97 : decode cX7_tick 97 = .ok (.iload 4, 2) := by decide +kernel
theorem dX7_tick_99 : decode cX7_tick 99 = .ok (.aaload, 1) := by decide +kernel
theorem dX7_tick_100 : decode cX7_tick 100 = .ok (.getfield 122, 3) := by decide +kernel
theorem dX7_tick_103 : decode cX7_tick 103 = .ok (.isub, 1) := by decide +kernel
theorem dX7_tick_104 : decode cX7_tick 104 = .ok (.bipush 10, 2) := by decide +kernel
theorem dX7_tick_106 : decode cX7_tick 106 = .ok (.if_icmp .gt 6, 3) := by decide +kernel
theorem dX7_tick_109 : decode cX7_tick 109 = .ok (.goto 21, 3) := by decide +kernel
theorem dX7_tick_112 : decode cX7_tick 112 = .ok (.aload_n 0, 1) := by decide +kernel
theorem dX7_tick_113 : decode cX7_tick 113 = .ok (.getfield 31, 3) := by decide +kernel
theorem dX7_tick_116 : decode cX7_tick 116 = .ok (.iload_n 3, 1) := by decide +kernel
theorem dX7_tick_117 : decode cX7_tick 117 = .ok (.dup2, 1) := by decide +kernel
theorem dX7_tick_118 : decode cX7_tick 118 = .ok (.iaload, 1) := by decide +kernel
theorem dX7_tick_119 : decode cX7_tick 119 = .ok (.iconst 1, 1) := by decide +kernel
theorem dX7_tick_120 : decode cX7_tick 120 = .ok (.iload 4, 2) := by decide +kernel
theorem dX7_tick_122 : decode cX7_tick 122 = .ok (.ishl, 1) := by decide +kernel
theorem dX7_tick_123 : decode cX7_tick 123 = .ok (.iconst (-1), 1) := by decide +kernel
theorem dX7_tick_124 : decode cX7_tick 124 = .ok (.ixor, 1) := by decide +kernel
theorem dX7_tick_125 : decode cX7_tick 125 = .ok (.iand, 1) := by decide +kernel
theorem dX7_tick_126 : decode cX7_tick 126 = .ok (.iastore, 1) := by decide +kernel
theorem dX7_tick_127 : decode cX7_tick 127 = .ok (.iinc 2 1, 3) := by decide +kernel
theorem dX7_tick_130 : decode cX7_tick 130 = .ok (.iinc 4 1, 3) := by decide +kernel
theorem dX7_tick_133 : decode cX7_tick 133 = .ok (.goto (-77), 3) := by decide +kernel
theorem dX7_tick_136 : decode cX7_tick 136 = .ok (.aload_n 0, 1) := by decide +kernel
theorem dX7_tick_137 : decode cX7_tick 137 = .ok (.iload_n 3, 1) := by decide +kernel
theorem dX7_tick_138 : decode cX7_tick 138 = .ok (.invokevirtual 125, 3) := by decide +kernel
theorem dX7_tick_141 : decode cX7_tick 141 = .ok (.iinc 3 1, 3) := by decide +kernel
theorem dX7_tick_144 : decode cX7_tick 144 = .ok (.goto (-116), 3) := by decide +kernel
theorem dX7_tick_147 : decode cX7_tick 147 = .ok (.iload_n 2, 1) := by decide +kernel
theorem dX7_tick_148 : decode cX7_tick 148 = .ok (.ireturn, 1) := by decide +kernel
set_option maxRecDepth 20000 in
theorem ggX7_flush_X7_isReplica : GoodIn wsX7_flush wsX7_isReplica := goodIn_r _ [8, 9, 10, 11, 12, 13, 7, 14, 15, 16, 17, 18, 19, 25, 26, 27, 28, 29, 30, 31, 32, 33, 34, 35, 36, 37, 38, 39, 40, 41, 42] (by decide +kernel) (by decide +kernel)
set_option maxRecDepth 20000 in
theorem gX7_flush_X7_isReplica : GoodIn wsX7_flush (wsV RX7 148 RX7 yX7_isReplica wsX7_isReplica) := goodIn_app (goodIn_of _ (by decide +kernel)) ggX7_flush_X7_isReplica
set_option maxRecDepth 20000 in
theorem ggX7_flush_X7_isUp : GoodIn wsX7_flush wsX7_isUp := goodIn_r _ [23, 9, 24, 17, 18, 7, 19, 25, 26, 27, 28, 29, 30, 31, 32, 33, 34, 35, 36, 37, 38, 39, 40, 41, 42] (by decide +kernel) (by decide +kernel)
set_option maxRecDepth 20000 in
theorem gX7_flush_X7_isUp : GoodIn wsX7_flush (wsV RX7 86 RX7 yX7_isUp wsX7_isUp) := goodIn_app (goodIn_of _ (by decide +kernel)) ggX7_flush_X7_isUp
theorem dX7_flush_0 : decode cX7_flush 0 = .ok (.aload_n 0, 1) := by decide +kernel
theorem dX7_flush_1 : decode cX7_flush 1 = .ok (.iload_n 1, 1) := by decide +kernel
theorem dX7_flush_2 : decode cX7_flush 2 = .ok (.iload_n 2, 1) := by decide +kernel
theorem dX7_flush_3 : decode cX7_flush 3 = .ok (.invokevirtual 148, 3) := by decide +kernel
theorem dX7_flush_6 : decode cX7_flush 6 = .ok (.ifCond .eq 11, 3) := by decide +kernel
theorem dX7_flush_9 : decode cX7_flush 9 = .ok (.aload_n 0, 1) := by decide +kernel
theorem dX7_flush_10 : decode cX7_flush 10 = .ok (.iload_n 1, 1) := by decide +kernel
theorem dX7_flush_11 : decode cX7_flush 11 = .ok (.invokevirtual 86, 3) := by decide +kernel
theorem dX7_flush_14 : decode cX7_flush 14 = .ok (.ifCond .ne 5, 3) := by decide +kernel
theorem dX7_flush_17 : decode cX7_flush 17 = .ok (.iconst (-1), 1) := by decide +kernel
theorem dX7_flush_18 : decode cX7_flush 18 = .ok (.ireturn, 1) := by decide +kernel
theorem dX7_flush_19 : decode cX7_flush 19 = .ok (.aload_n 0, 1) := by decide +kernel
theorem dX7_flush_20 : decode cX7_flush 20 = .ok (.getfield 11, 3) := by decide +kernel
theorem dX7_flush_23 : decode cX7_flush 23 = .ok (.iload_n 2, 1) := by decide +kernel
theorem dX7_flush_24 : decode cX7_flush 24 = .ok (.aaload, 1) := by decide +kernel
theorem dX7_flush_25 : decode cX7_flush 25 = .ok (.iload_n 1, 1) := by decide +kernel
theorem dX7_flush_26 : decode cX7_flush 26 = .ok (.aaload, 1) := by decide +kernel
theorem dX7_flush_27 : decode cX7_flush 27 = .ok (.astore_n 3, 1) := by decide +kernel
theorem dX7_flush_28 : decode cX7_flush 28 = .ok (.aload_n 3, 1) := by decide +kernel
theorem dX7_flush_29 : decode cX7_flush 29 = .ok (.getfield 89, 3) := by decide +kernel
theorem dX7_flush_32 : decode cX7_flush 32 = .ok (.aload_n 3, 1) := by decide +kernel
theorem dX7_flush_33 : decode cX7_flush 33 = .ok (.getfield 158, 3) := by decide +kernel
theorem dX7_flush_36 : decode cX7_flush 36 = .ok (.isub, 1) := by decide +kernel
theorem dX7_flush_37 : decode cX7_flush 37 = .ok (.istore 4, 2) := by decide +kernel
theorem dX7_flush_39 : decode cX7_flush 39 = .ok (.aload_n 3, 1) := by decide +kernel
theorem dX7_flush_40 : decode cX7_flush 40 = .ok (.aload_n 3, 1) := by decide +kernel
theorem dX7_flush_41 : decode cX7_flush 41 = .ok (.getfield 89, 3) := by decide +kernel
theorem dX7_flush_44 : decode cX7_flush 44 = .ok (.putfield 158, 3) := by decide +kernel
theorem dX7_flush_47 : decode cX7_flush 47 = .ok (.iload 4, 2) := by decide +kernel
theorem dX7_flush_49 : decode cX7_flush 49 = .ok (.ireturn, 1) := by decide +kernel
set_option maxRecDepth 20000 in
theorem ggX7_crash_X7_isUp : GoodIn wsX7_crash wsX7_isUp := goodIn_r _ [21, 22, 1, 23, 24, 20, 25, 40, 41, 42, 43, 44, 45, 46, 47, 48, 49, 50, 51, 52, 53, 54, 55, 56, 57] (by decide +kernel) (by decide +kernel)
set_option maxRecDepth 20000 in
theorem gX7_crash_X7_isUp : GoodIn wsX7_crash (wsV RX7 86 RX7 yX7_isUp wsX7_isUp) := goodIn_app (goodIn_of _ (by decide +kernel)) ggX7_crash_X7_isUp
set_option maxRecDepth 20000 in
theorem ggX7_crash_X7_rise : GoodIn wsX7_crash wsX7_rise := goodIn_r _ [29, 30, 16, 12, 13, 9, 14, 11, 31, 32, 33, 20, 34, 15, 4, 17, 18, 19, 21, 22, 1, 23, 24, 25, 35, 36, 37, 38, 5, 39, 40, 41, 42, 43, 44, 45, 46, 47, 48, 49, 50, 51, 52, 53, 54, 55, 56, 57, 58, 59, 60, 61, 62, 63, 64] (by decide +kernel) (by decide +kernel)
set_option maxRecDepth 20000 in
theorem gX7_crash_X7_rise : GoodIn wsX7_crash (wsV RX7 125 RX7 yX7_rise wsX7_rise) := goodIn_app (goodIn_of _ (by decide +kernel)) ggX7_crash_X7_rise
theorem dX7_crash_0 : decode cX7_crash 0 = .ok (.aload_n 0, 1) := by decide +kernel
theorem dX7_crash_1 : decode cX7_crash 1 = .ok (.iload_n 1, 1) := by decide +kernel
theorem dX7_crash_2 : decode cX7_crash 2 = .ok (.invokevirtual 86, 3) := by decide +kernel
theorem dX7_crash_5 : decode cX7_crash 5 = .ok (.ifCond .eq 7, 3) := by decide +kernel
theorem dX7_crash_8 : decode cX7_crash 8 = .ok (.iload_n 2, 1) := by decide +kernel
theorem dX7_crash_9 : decode cX7_crash 9 = .ok (.ifCond .ge 5, 3) := by decide +kernel
theorem dX7_crash_12 : decode cX7_crash 12 = .ok (.iconst (-1), 1) := by decide +kernel
theorem dX7_crash_13 : decode cX7_crash 13 = .ok (.ireturn, 1) := by decide +kernel
theorem dX7_crash_14 : decode cX7_crash 14 = .ok (.aload_n 0, 1) := by decide +kernel
theorem dX7_crash_15 : decode cX7_crash 15 = .ok (.dup, 1) := by decide +kernel
theorem dX7_crash_16 : decode cX7_crash 16 = .ok (.getfield 61, 3) := by decide +kernel
theorem dX7_crash_19 : decode cX7_crash 19 = .ok (.iconst 1, 1) := by decide +kernel
theorem dX7_crash_20 : decode cX7_crash 20 = .ok (.iload_n 1, 1) := by decide +kernel
theorem dX7_crash_21 : decode cX7_crash 21 = .ok (.ishl, 1) := by decide +kernel
theorem dX7_crash_22 : decode cX7_crash 22 = .ok (.iconst (-1), 1) := by decide +kernel
theorem dX7_crash_23 : decode cX7_crash 23 = .ok (.ixor, 1) := by decide +kernel
theorem dX7_crash_24 : decode cX7_crash 24 = .ok (.iand, 1) := by decide +kernel
theorem dX7_crash_25 : decode cX7_crash 25 = .ok (.putfield 61, 3) := by decide +kernel
theorem dX7_crash_28 : decode cX7_crash 28 = .ok (.iconst 0, 1) := by decide +kernel
theorem dX7_crash_29 : decode cX7_crash 29 = .ok (.istore_n 3, 1) := by decide +kernel
theorem dX7_crash_30 : decode cX7_crash 30 = .ok (.iconst 0, 1) := by decide +kernel
theorem dX7_crash_31 : decode cX7_crash 31 = .ok (.istore 4, 2) := by decide +kernel
theorem dX7_crash_33 : decode cX7_crash 33 = .ok (.iload 4, 2) := by decide +kernel
theorem dX7_crash_35 : decode cX7_crash 35 = .ok (.iconst 4, 1) := by decide +kernel
theorem dX7_crash_36 : decode cX7_crash 36 = .ok (.if_icmp .ge 159, 3) := by decide +kernel
theorem dX7_crash_39 : decode cX7_crash 39 = .ok (.aload_n 0, 1) := by decide +kernel
theorem dX7_crash_40 : decode cX7_crash 40 = .ok (.getfield 14, 3) := by decide +kernel
theorem dX7_crash_43 : decode cX7_crash 43 = .ok (.iload 4, 2) := by decide +kernel
theorem dX7_crash_45 : decode cX7_crash 45 = .ok (.baload, 1) := by decide +kernel
theorem dX7_crash_46 : decode cX7_crash 46 = .ok (.ifCond .ne 6, 3) := by decide +kernel
theorem dX7_crash_49 : decode cX7_crash 49 = .ok (.goto 140, 3) := by decide +kernel
theorem dX7_crash_52 : decode cX7_crash 52 = .ok (.aload_n 0, 1) := by decide +kernel
theorem dX7_crash_53 : decode cX7_crash 53 = .ok (.getfield 18, 3) := by decide +kernel
theorem dX7_crash_56 : decode cX7_crash 56 = .ok (.iload 4, 2) := by decide +kernel
theorem dX7_crash_58 : decode cX7_crash 58 = .ok (.iaload, 1) := by decide +kernel
theorem dX7_crash_59 : decode cX7_crash 59 = .ok (.iload_n 1, 1) := by decide +kernel
theorem dX7_crash_60 : decode cX7_crash 60 = .ok (.ishr, 1) := by decide +kernel
theorem dX7_crash_61 : decode cX7_crash 61 = .ok (.iconst 1, 1) := by decide +kernel
theorem dX7_crash_62 : decode cX7_crash 62 = .ok (.iand, 1) := by decide +kernel
theorem dX7_crash_63 : decode cX7_crash 63 = .ok (.iconst 1, 1) := by decide +kernel
theorem dX7_crash_64 : decode cX7_crash 64 = .ok (.if_icmp .ne 112, 3) := by decide +kernel
theorem dX7_crash_67 : decode cX7_crash 67 = .ok (.aload_n 0, 1) := by decide +kernel
theorem dX7_crash_68 : decode cX7_crash 68 = .ok (.getfield 11, 3) := by decide +kernel
theorem dX7_crash_71 : decode cX7_crash 71 = .ok (.iload 4, 2) := by decide +kernel
theorem dX7_crash_73 : decode cX7_crash 73 = .ok (.aaload, 1) := by decide +kernel
theorem dX7_crash_74 : decode cX7_crash 74 = .ok (.iload_n 1, 1) := by decide +kernel
theorem dX7_crash_75 : decode cX7_crash 75 = .ok (.aaload, 1) := by decide +kernel
theorem dX7_crash_76 : decode cX7_crash 76 = .ok (.astore 5, 2) := by decide +kernel
theorem dX7_crash_78 : decode cX7_crash 78 = .ok (.aload 5, 2) := by decide +kernel
theorem dX7_crash_80 : decode cX7_crash 80 = .ok (.aload 5, 2) := by decide +kernel
theorem dX7_crash_82 : decode cX7_crash 82 = .ok (.getfield 89, 3) := by decide +kernel
theorem dX7_crash_85 : decode cX7_crash 85 = .ok (.i2l, 1) := by decide +kernel
theorem dX7_crash_86 : decode cX7_crash 86 = .ok (.aload 5, 2) := by decide +kernel
theorem dX7_crash_88 : decode cX7_crash 88 = .ok (.getfield 158, 3) := by decide +kernel
theorem dX7_crash_91 : decode cX7_crash 91 = .ok (.i2l, 1) := by decide +kernel
theorem dX7_crash_92 : decode cX7_crash 92 = .ok (.iload_n 2, 1) := by decide +kernel
theorem dX7_crash_93 : decode cX7_crash 93 = .ok (.i2l, 1) := by decide +kernel
theorem dX7_crash_94 : decode cX7_crash 94 = .ok (.ladd, 1) := by decide +kernel
theorem dX7_crash_95 : decode cX7_crash 95 = .ok (.invokestatic 180, 3) := by decide +kernel
theorem dX7_crash_98 : decode cX7_crash 98 = .ok (.l2i, 1) := by decide +kernel
theorem dX7_crash_99 : decode cX7_crash 99 = .ok (.putfield 89, 3) := by decide +kernel
theorem dX7_crash_102 : decode cX7_crash 102 = .ok (.aload 5, 2) := by decide +kernel
theorem dX7_crash_104 : decode cX7_crash 104 = .ok (.aload 5, 2) := by decide +kernel
theorem dX7_crash_106 : decode cX7_crash 106 = .ok (.getfield 109, 3) := by decide +kernel
theorem dX7_crash_109 : decode cX7_crash 109 = .ok (.aload 5, 2) := by decide +kernel
theorem dX7_crash_111 : decode cX7_crash 111 = .ok (.getfield 89, 3) := by decide +kernel
theorem dX7_crash_114 : decode cX7_crash 114 = .ok (.invokestatic 105, 3) := by decide +kernel
theorem dX7_crash_117 : decode cX7_crash 117 = .ok (.putfield 109, 3) := by decide +kernel
theorem dX7_crash_120 : decode cX7_crash 120 = .ok (.aload_n 0, 1) := by decide +kernel
theorem dX7_crash_121 : decode cX7_crash 121 = .ok (.getfield 22, 3) := by decide +kernel
theorem dX7_crash_124 : decode cX7_crash 124 = .ok (.iload 4, 2) := by decide +kernel
theorem dX7_crash_126 : decode cX7_crash 126 = .ok (.iaload, 1) := by decide +kernel
theorem dX7_crash_127 : decode cX7_crash 127 = .ok (.iload_n 1, 1) := by decide +kernel
theorem dX7_crash_128 : decode cX7_crash 128 = .ok (.if_icmp .ne 11, 3) := by decide +kernel
theorem dX7_crash_131 : decode cX7_crash 131 = .ok (.aload_n 0, 1) := by decide +kernel
theorem dX7_crash_132 : decode cX7_crash 132 = .ok (.getfield 22, 3) := by decide +kernel
theorem dX7_crash_135 : decode cX7_crash 135 = .ok (.iload 4, 2) := by decide +kernel
theorem dX7_crash_137 : decode cX7_crash 137 = .ok (.iconst (-1), 1) := by decide +kernel
theorem dX7_crash_138 : decode cX7_crash 138 = .ok (.iastore, 1) := by decide +kernel
theorem dX7_crash_139 : decode cX7_crash 139 = .ok (.aload_n 0, 1) := by decide +kernel
theorem dX7_crash_140 : decode cX7_crash 140 = .ok (.getfield 31, 3) := by decide +kernel
theorem dX7_crash_143 : decode cX7_crash 143 = .ok (.iload 4, 2) := by decide +kernel
theorem dX7_crash_145 : decode cX7_crash 145 = .ok (.iaload, 1) := by decide +kernel
theorem dX7_crash_146 : decode cX7_crash 146 = .ok (.iconst 1, 1) := by decide +kernel
theorem dX7_crash_147 : decode cX7_crash 147 = .ok (.iload_n 1, 1) := by decide +kernel
theorem dX7_crash_148 : decode cX7_crash 148 = .ok (.ishl, 1) := by decide +kernel
theorem dX7_crash_149 : decode cX7_crash 149 = .ok (.iconst (-1), 1) := by decide +kernel
theorem dX7_crash_150 : decode cX7_crash 150 = .ok (.ixor, 1) := by decide +kernel
theorem dX7_crash_151 : decode cX7_crash 151 = .ok (.iand, 1) := by decide +kernel
theorem dX7_crash_152 : decode cX7_crash 152 = .ok (.ifCond .eq 18, 3) := by decide +kernel
theorem dX7_crash_155 : decode cX7_crash 155 = .ok (.aload_n 0, 1) := by decide +kernel
theorem dX7_crash_156 : decode cX7_crash 156 = .ok (.getfield 31, 3) := by decide +kernel
theorem dX7_crash_159 : decode cX7_crash 159 = .ok (.iload 4, 2) := by decide +kernel
theorem dX7_crash_161 : decode cX7_crash 161 = .ok (.dup2, 1) := by decide +kernel
theorem dX7_crash_162 : decode cX7_crash 162 = .ok (.iaload, 1) := by decide +kernel
theorem dX7_crash_163 : decode cX7_crash 163 = .ok (.iconst 1, 1) := by decide +kernel
theorem dX7_crash_164 : decode cX7_crash 164 = .ok (.iload_n 1, 1) := by decide +kernel
theorem dX7_crash_165 : decode cX7_crash 165 = .ok (.ishl, 1) := by decide +kernel
theorem dX7_crash_166 : decode cX7_crash 166 = .ok (.iconst (-1), 1) := by decide +kernel
theorem dX7_crash_167 : decode cX7_crash 167 = .ok (.ixor, 1) := by decide +kernel
theorem dX7_crash_168 : decode cX7_crash 168 = .ok (.iand, 1) := by decide +kernel
theorem dX7_crash_169 : decode cX7_crash 169 = .ok (.iastore, 1) := by decide +kernel
theorem dX7_crash_170 : decode cX7_crash 170 = .ok (.aload_n 0, 1) := by decide +kernel
theorem dX7_crash_171 : decode cX7_crash 171 = .ok (.iload 4, 2) := by decide +kernel
theorem dX7_crash_173 : decode cX7_crash 173 = .ok (.invokevirtual 125, 3) := by decide +kernel
theorem dX7_crash_176 : decode cX7_crash 176 = .ok (.aload_n 0, 1) := by decide +kernel
theorem dX7_crash_177 : decode cX7_crash 177 = .ok (.getfield 22, 3) := by decide +kernel
theorem dX7_crash_180 : decode cX7_crash 180 = .ok (.iload 4, 2) := by decide +kernel
theorem dX7_crash_182 : decode cX7_crash 182 = .ok (.iaload, 1) := by decide +kernel
theorem dX7_crash_183 : decode cX7_crash 183 = .ok (.ifCond .ge 6, 3) := by decide +kernel
theorem dX7_crash_186 : decode cX7_crash 186 = .ok (.iinc 3 1, 3) := by decide +kernel
theorem dX7_crash_189 : decode cX7_crash 189 = .ok (.iinc 4 1, 3) := by decide +kernel
theorem dX7_crash_192 : decode cX7_crash 192 = .ok (.goto (-159), 3) := by decide +kernel
theorem dX7_crash_195 : decode cX7_crash 195 = .ok (.iload_n 3, 1) := by decide +kernel
theorem dX7_crash_196 : decode cX7_crash 196 = .ok (.ireturn, 1) := by decide +kernel
set_option maxRecDepth 20000 in
theorem ggX7_restart_X7_in : GoodIn wsX7_restart wsX7_in := goodIn_r _ [8] (by decide +kernel) (by decide +kernel)
set_option maxRecDepth 20000 in
theorem gX7_restart_X7_in : GoodIn wsX7_restart (va_wsS RX7 76 yX7_in wsX7_in) := goodIn_app (goodIn_of _ (by decide +kernel)) ggX7_restart_X7_in
set_option maxRecDepth 20000 in
theorem ggX7_restart_X7_isUp : GoodIn wsX7_restart wsX7_isUp := goodIn_r _ [12, 1, 2, 5, 6, 7, 8, 13, 14, 15, 16, 17, 18, 19, 20, 21, 22, 23, 24, 25, 26, 27, 28, 29, 30] (by decide +kernel) (by decide +kernel)
set_option maxRecDepth 20000 in
theorem gX7_restart_X7_isUp : GoodIn wsX7_restart (wsV RX7 86 RX7 yX7_isUp wsX7_isUp) := goodIn_app (goodIn_of _ (by decide +kernel)) ggX7_restart_X7_isUp
theorem dX7_restart_0 : decode cX7_restart 0 = .ok (.iload_n 1, 1) := by decide +kernel
theorem dX7_restart_1 : decode cX7_restart 1 = .ok (.i2l, 1) := by decide +kernel
theorem dX7_restart_2 : decode cX7_restart 2 = .ok (.lconst 0, 1) := by decide +kernel
theorem dX7_restart_3 : decode cX7_restart 3 = .ok (.ldc2_w 74, 3) := by decide +kernel
theorem dX7_restart_6 : decode cX7_restart 6 = .ok (.invokestatic 76, 3) := by decide +kernel
theorem dX7_restart_9 : decode cX7_restart 9 = .ok (.ifCond .eq 11, 3) := by decide +kernel
theorem dX7_restart_12 : decode cX7_restart 12 = .ok (.aload_n 0, 1) := by decide +kernel
theorem dX7_restart_13 : decode cX7_restart 13 = .ok (.iload_n 1, 1) := by decide +kernel
theorem dX7_restart_14 : decode cX7_restart 14 = .ok (.invokevirtual 86, 3) := by decide +kernel
theorem dX7_restart_17 : decode cX7_restart 17 = .ok (.ifCond .eq 5, 3) := by decide +kernel
theorem dX7_restart_20 : decode cX7_restart 20 = .ok (.iconst (-1), 1) := by decide +kernel
theorem dX7_restart_21 : decode cX7_restart 21 = .ok (.ireturn, 1) := by decide +kernel
theorem dX7_restart_22 : decode cX7_restart 22 = .ok (.aload_n 0, 1) := by decide +kernel
theorem dX7_restart_23 : decode cX7_restart 23 = .ok (.dup, 1) := by decide +kernel
theorem dX7_restart_24 : decode cX7_restart 24 = .ok (.getfield 61, 3) := by decide +kernel
theorem dX7_restart_27 : decode cX7_restart 27 = .ok (.iconst 1, 1) := by decide +kernel
theorem dX7_restart_28 : decode cX7_restart 28 = .ok (.iload_n 1, 1) := by decide +kernel
theorem dX7_restart_29 : decode cX7_restart 29 = .ok (.ishl, 1) := by decide +kernel
theorem dX7_restart_30 : decode cX7_restart 30 = .ok (.ior, 1) := by decide +kernel
theorem dX7_restart_31 : decode cX7_restart 31 = .ok (.putfield 61, 3) := by decide +kernel
theorem dX7_restart_34 : decode cX7_restart 34 = .ok (.iconst 0, 1) := by decide +kernel
theorem dX7_restart_35 : decode cX7_restart 35 = .ok (.istore_n 2, 1) := by decide +kernel
theorem dX7_restart_36 : decode cX7_restart 36 = .ok (.iload_n 2, 1) := by decide +kernel
theorem dX7_restart_37 : decode cX7_restart 37 = .ok (.iconst 4, 1) := by decide +kernel
theorem dX7_restart_38 : decode cX7_restart 38 = .ok (.if_icmp .ge 21, 3) := by decide +kernel
theorem dX7_restart_41 : decode cX7_restart 41 = .ok (.aload_n 0, 1) := by decide +kernel
theorem dX7_restart_42 : decode cX7_restart 42 = .ok (.getfield 11, 3) := by decide +kernel
theorem dX7_restart_45 : decode cX7_restart 45 = .ok (.iload_n 2, 1) := by decide +kernel
theorem dX7_restart_46 : decode cX7_restart 46 = .ok (.aaload, 1) := by decide +kernel
theorem dX7_restart_47 : decode cX7_restart 47 = .ok (.iload_n 1, 1) := by decide +kernel
theorem dX7_restart_48 : decode cX7_restart 48 = .ok (.aaload, 1) := by decide +kernel
theorem dX7_restart_49 : decode cX7_restart 49 = .ok (.iconst (-1), 1) := by decide +kernel
theorem dX7_restart_50 : decode cX7_restart 50 = .ok (.putfield 92, 3) := by decide +kernel
theorem dX7_restart_53 : decode cX7_restart 53 = .ok (.iinc 2 1, 3) := by decide +kernel
theorem dX7_restart_56 : decode cX7_restart 56 = .ok (.goto (-20), 3) := by decide +kernel
theorem dX7_restart_59 : decode cX7_restart 59 = .ok (.iconst 0, 1) := by decide +kernel
theorem dX7_restart_60 : decode cX7_restart 60 = .ok (.ireturn, 1) := by decide +kernel
set_option maxRecDepth 20000 in
theorem ggX7_trim_X7_isThere : GoodIn wsX7_trim wsX7_isThere := goodIn_r _ [12, 13, 14, 15, 16, 11, 17, 53, 54, 55, 56, 57, 58, 59, 60, 61, 62, 63, 64, 65, 66, 67, 68, 69, 70] (by decide +kernel) (by decide +kernel)
set_option maxRecDepth 20000 in
theorem gX7_trim_X7_isThere : GoodIn wsX7_trim (wsV RX7 82 RX7 yX7_isThere wsX7_isThere) := goodIn_app (goodIn_of _ (by decide +kernel)) ggX7_trim_X7_isThere
set_option maxRecDepth 20000 in
theorem ggX7_trim_X7_own : GoodIn wsX7_trim wsX7_own := goodIn_r _ [21, 22, 23, 24, 25, 26, 11, 27, 28, 29, 15, 16, 17, 53, 54, 55, 56, 57, 58, 59, 60, 61, 62, 63, 64, 65, 66, 67, 68, 69, 70] (by decide +kernel) (by decide +kernel)
set_option maxRecDepth 20000 in
theorem gX7_trim_X7_own : GoodIn wsX7_trim (wsV RX7 95 RX7 yX7_own wsX7_own) := goodIn_app (goodIn_of _ (by decide +kernel)) ggX7_trim_X7_own
set_option maxRecDepth 20000 in
theorem ggX7_trim_X7_in : GoodIn wsX7_trim wsX7_in := goodIn_r _ [17] (by decide +kernel) (by decide +kernel)
set_option maxRecDepth 20000 in
theorem gX7_trim_X7_in : GoodIn wsX7_trim (va_wsS RX7 76 yX7_in wsX7_in) := goodIn_app (goodIn_of _ (by decide +kernel)) ggX7_trim_X7_in
set_option maxRecDepth 20000 in
theorem ggX7_trim_X6_from : GoodIn wsX7_trim wsX6_from := goodIn_r _ [34, 35, 36, 37, 38, 39, 40, 41, 46, 47, 48, 49, 50, 51, 52] (by decide +kernel) (by decide +kernel)
set_option maxRecDepth 20000 in
theorem gX7_trim_X6_from : GoodIn wsX7_trim (wsV RX7 152 RX6 yX6_from wsX6_from) := goodIn_app (goodIn_of _ (by decide +kernel)) ggX7_trim_X6_from
set_option maxRecDepth 20000 in
theorem ggX7_trim_X6_many : GoodIn wsX7_trim wsX6_many := goodIn_r _ [45, 36, 35, 46, 47, 48, 49, 50, 51, 52] (by decide +kernel) (by decide +kernel)
set_option maxRecDepth 20000 in
theorem gX7_trim_X6_many : GoodIn wsX7_trim (wsV RX7 140 RX6 yX6_many wsX6_many) := goodIn_app (goodIn_of _ (by decide +kernel)) ggX7_trim_X6_many
theorem dX7_trim_0 : decode cX7_trim 0 = .ok (.aload_n 0, 1) := by decide +kernel
theorem dX7_trim_1 : decode cX7_trim 1 = .ok (.iload_n 1, 1) := by decide +kernel
theorem dX7_trim_2 : decode cX7_trim 2 = .ok (.invokevirtual 82, 3) := by decide +kernel
theorem dX7_trim_5 : decode cX7_trim 5 = .ok (.ifCond .ne 5, 3) := by decide +kernel
theorem dX7_trim_8 : decode cX7_trim 8 = .ok (.iconst (-1), 1) := by decide +kernel
theorem dX7_trim_9 : decode cX7_trim 9 = .ok (.ireturn, 1) := by decide +kernel
theorem dX7_trim_10 : decode cX7_trim 10 = .ok (.aload_n 0, 1) := by decide +kernel
theorem dX7_trim_11 : decode cX7_trim 11 = .ok (.iload_n 1, 1) := by decide +kernel
theorem dX7_trim_12 : decode cX7_trim 12 = .ok (.invokevirtual 95, 3) := by decide +kernel
theorem dX7_trim_15 : decode cX7_trim 15 = .ok (.astore_n 3, 1) := by decide +kernel
theorem dX7_trim_16 : decode cX7_trim 16 = .ok (.aload_n 3, 1) := by decide +kernel
theorem dX7_trim_17 : decode cX7_trim 17 = .ok (.ifnonnull 6, 3) := by decide +kernel
theorem dX7_trim_20 : decode cX7_trim 20 = .ok (.bipush (-2), 2) := by decide +kernel
theorem dX7_trim_22 : decode cX7_trim 22 = .ok (.ireturn, 1) := by decide +kernel
theorem dX7_trim_23 : decode cX7_trim 23 = .ok (.iload_n 2, 1) := by decide +kernel
theorem dX7_trim_24 : decode cX7_trim 24 = .ok (.i2l, 1) := by decide +kernel
theorem dX7_trim_25 : decode cX7_trim 25 = .ok (.aload_n 3, 1) := by decide +kernel
theorem dX7_trim_26 : decode cX7_trim 26 = .ok (.getfield 134, 3) := by decide +kernel
theorem dX7_trim_29 : decode cX7_trim 29 = .ok (.i2l, 1) := by decide +kernel
theorem dX7_trim_30 : decode cX7_trim 30 = .ok (.aload_n 3, 1) := by decide +kernel
theorem dX7_trim_31 : decode cX7_trim 31 = .ok (.getfield 109, 3) := by decide +kernel
theorem dX7_trim_34 : decode cX7_trim 34 = .ok (.i2l, 1) := by decide +kernel
theorem dX7_trim_35 : decode cX7_trim 35 = .ok (.invokestatic 76, 3) := by decide +kernel
theorem dX7_trim_38 : decode cX7_trim 38 = .ok (.ifCond .ne 5, 3) := by decide +kernel
theorem dX7_trim_41 : decode cX7_trim 41 = .ok (.iconst (-1), 1) := by decide +kernel
theorem dX7_trim_42 : decode cX7_trim 42 = .ok (.ireturn, 1) := by decide +kernel
theorem dX7_trim_43 : decode cX7_trim 43 = .ok (.aload_n 3, 1) := by decide +kernel
theorem dX7_trim_44 : decode cX7_trim 44 = .ok (.iload_n 2, 1) := by decide +kernel
theorem dX7_trim_45 : decode cX7_trim 45 = .ok (.invokevirtual 152, 3) := by decide +kernel
theorem dX7_trim_48 : decode cX7_trim 48 = .ok (.aload_n 3, 1) := by decide +kernel
theorem dX7_trim_49 : decode cX7_trim 49 = .ok (.aload_n 3, 1) := by decide +kernel
theorem dX7_trim_50 : decode cX7_trim 50 = .ok (.getfield 158, 3) := by decide +kernel
theorem dX7_trim_53 : decode cX7_trim 53 = .ok (.aload_n 3, 1) := by decide +kernel
theorem dX7_trim_54 : decode cX7_trim 54 = .ok (.getfield 134, 3) := by decide +kernel
theorem dX7_trim_57 : decode cX7_trim 57 = .ok (.invokestatic 155, 3) := by decide +kernel
theorem dX7_trim_60 : decode cX7_trim 60 = .ok (.putfield 158, 3) := by decide +kernel
theorem dX7_trim_63 : decode cX7_trim 63 = .ok (.aload_n 3, 1) := by decide +kernel
theorem dX7_trim_64 : decode cX7_trim 64 = .ok (.invokevirtual 140, 3) := by decide +kernel
theorem dX7_trim_67 : decode cX7_trim 67 = .ok (.ireturn, 1) := by decide +kernel
set_option maxRecDepth 20000 in
theorem ggX7_log_X7_isReplica : GoodIn wsX7_log wsX7_isReplica := goodIn_r _ [12, 13, 14, 15, 16, 17, 11, 18, 19, 20, 21, 22, 23, 30, 31, 32, 33, 34, 35, 36, 37, 38, 39, 40, 41, 42, 43, 44, 45, 46, 47] (by decide +kernel) (by decide +kernel)
set_option maxRecDepth 20000 in
theorem gX7_log_X7_isReplica : GoodIn wsX7_log (wsV RX7 148 RX7 yX7_isReplica wsX7_isReplica) := goodIn_app (goodIn_of _ (by decide +kernel)) ggX7_log_X7_isReplica
set_option maxRecDepth 20000 in
theorem ggX7_log_X7_in : GoodIn wsX7_log wsX7_in := goodIn_r _ [23] (by decide +kernel) (by decide +kernel)
set_option maxRecDepth 20000 in
theorem gX7_log_X7_in : GoodIn wsX7_log (va_wsS RX7 76 yX7_in wsX7_in) := goodIn_app (goodIn_of _ (by decide +kernel)) ggX7_log_X7_in
set_option maxRecDepth 20000 in
theorem ggX7_log_X7_known : GoodIn wsX7_log wsX7_known := goodIn_r _ [27, 28, 2, 4, 29, 30, 31, 32, 33, 34, 35, 36, 37, 38, 39, 40, 41, 42, 43, 44, 45, 46, 47, 48, 49, 50, 51, 52, 53, 54] (by decide +kernel) (by decide +kernel)
set_option maxRecDepth 20000 in
theorem gX7_log_X7_known : GoodIn wsX7_log (wsV RX7 102 RX7 yX7_known wsX7_known) := goodIn_app (goodIn_of _ (by decide +kernel)) ggX7_log_X7_known
theorem dX7_log_0 : decode cX7_log 0 = .ok (.aload_n 0, 1) := by decide +kernel
theorem dX7_log_1 : decode cX7_log 1 = .ok (.iload_n 1, 1) := by decide +kernel
theorem dX7_log_2 : decode cX7_log 2 = .ok (.iload_n 2, 1) := by decide +kernel
theorem dX7_log_3 : decode cX7_log 3 = .ok (.invokevirtual 148, 3) := by decide +kernel
theorem dX7_log_6 : decode cX7_log 6 = .ok (.ifCond .eq 15, 3) := by decide +kernel
theorem dX7_log_9 : decode cX7_log 9 = .ok (.iload_n 3, 1) := by decide +kernel
theorem dX7_log_10 : decode cX7_log 10 = .ok (.i2l, 1) := by decide +kernel
theorem dX7_log_11 : decode cX7_log 11 = .ok (.lconst 0, 1) := by decide +kernel
theorem dX7_log_12 : decode cX7_log 12 = .ok (.ldc2_w 129, 3) := by decide +kernel
theorem dX7_log_15 : decode cX7_log 15 = .ok (.invokestatic 76, 3) := by decide +kernel
theorem dX7_log_18 : decode cX7_log 18 = .ok (.ifCond .ne 5, 3) := by decide +kernel
theorem dX7_log_21 : decode cX7_log 21 = .ok (.iconst (-1), 1) := by decide +kernel
theorem dX7_log_22 : decode cX7_log 22 = .ok (.ireturn, 1) := by decide +kernel
theorem dX7_log_23 : decode cX7_log 23 = .ok (.aload_n 0, 1) := by decide +kernel
theorem dX7_log_24 : decode cX7_log 24 = .ok (.getfield 11, 3) := by decide +kernel
theorem dX7_log_27 : decode cX7_log 27 = .ok (.iload_n 2, 1) := by decide +kernel
theorem dX7_log_28 : decode cX7_log 28 = .ok (.aaload, 1) := by decide +kernel
theorem dX7_log_29 : decode cX7_log 29 = .ok (.iload_n 1, 1) := by decide +kernel
theorem dX7_log_30 : decode cX7_log 30 = .ok (.aaload, 1) := by decide +kernel
theorem dX7_log_31 : decode cX7_log 31 = .ok (.astore 4, 2) := by decide +kernel
theorem dX7_log_33 : decode cX7_log 33 = .ok (.iload_n 3, 1) := by decide +kernel
theorem dX7_log_34 : decode cX7_log 34 = .ok (.tableswitch 65 0 4 #[34, 40, 46, 52, 58], 34) := by decide +kernel
theorem dX7_log_68 : decode cX7_log 68 = .ok (.aload 4, 2) := by decide +kernel
theorem dX7_log_70 : decode cX7_log 70 = .ok (.getfield 134, 3) := by decide +kernel
theorem dX7_log_73 : decode cX7_log 73 = .ok (.ireturn, 1) := by decide +kernel
theorem dX7_log_74 : decode cX7_log 74 = .ok (.aload 4, 2) := by decide +kernel
theorem dX7_log_76 : decode cX7_log 76 = .ok (.getfield 89, 3) := by decide +kernel
theorem dX7_log_79 : decode cX7_log 79 = .ok (.ireturn, 1) := by decide +kernel
theorem dX7_log_80 : decode cX7_log 80 = .ok (.aload 4, 2) := by decide +kernel
theorem dX7_log_82 : decode cX7_log 82 = .ok (.getfield 109, 3) := by decide +kernel
theorem dX7_log_85 : decode cX7_log 85 = .ok (.ireturn, 1) := by decide +kernel
theorem dX7_log_86 : decode cX7_log 86 = .ok (.aload 4, 2) := by decide +kernel
theorem dX7_log_88 : decode cX7_log 88 = .ok (.getfield 158, 3) := by decide +kernel
theorem dX7_log_91 : decode cX7_log 91 = .ok (.ireturn, 1) := by decide +kernel
theorem dX7_log_92 : decode cX7_log 92 = .ok (.aload_n 0, 1) := by decide +kernel
theorem dX7_log_93 : decode cX7_log 93 = .ok (.iload_n 2, 1) := by decide +kernel
theorem dX7_log_94 : decode cX7_log 94 = .ok (.iload_n 1, 1) := by decide +kernel
theorem dX7_log_95 : decode cX7_log 95 = .ok (.invokevirtual 102, 3) := by decide +kernel
theorem dX7_log_98 : decode cX7_log 98 = .ok (.ireturn, 1) := by decide +kernel
theorem dX7_log_99 : decode cX7_log 99 = .ok (.aload 4, 2) := by decide +kernel
theorem dX7_log_101 : decode cX7_log 101 = .ok (.getfield 122, 3) := by decide +kernel
theorem dX7_log_104 : decode cX7_log 104 = .ok (.ireturn, 1) := by decide +kernel
set_option maxRecDepth 20000 in
theorem ggX7_record_X7_isReplica : GoodIn wsX7_record wsX7_isReplica := goodIn_r _ [10, 11, 12, 13, 14, 15, 9, 16, 17, 18, 19, 20, 21, 29, 30, 31, 32, 33, 34, 35, 36, 37, 38, 39, 40, 41, 42, 43, 44, 45, 46] (by decide +kernel) (by decide +kernel)
set_option maxRecDepth 20000 in
theorem gX7_record_X7_isReplica : GoodIn wsX7_record (wsV RX7 148 RX7 yX7_isReplica wsX7_isReplica) := goodIn_app (goodIn_of _ (by decide +kernel)) ggX7_record_X7_isReplica
set_option maxRecDepth 20000 in
theorem ggX7_record_X7_in : GoodIn wsX7_record wsX7_in := goodIn_r _ [21] (by decide +kernel) (by decide +kernel)
set_option maxRecDepth 20000 in
theorem gX7_record_X7_in : GoodIn wsX7_record (va_wsS RX7 76 yX7_in wsX7_in) := goodIn_app (goodIn_of _ (by decide +kernel)) ggX7_record_X7_in
set_option maxRecDepth 20000 in
theorem ggX7_record_X6_get : GoodIn wsX7_record wsX6_get := goodIn_r _ [26, 27, 28, 47, 48, 49, 50, 51, 52, 53] (by decide +kernel) (by decide +kernel)
set_option maxRecDepth 20000 in
theorem gX7_record_X6_get : GoodIn wsX7_record (wsV RX7 137 RX6 yX6_get wsX6_get) := goodIn_app (goodIn_of _ (by decide +kernel)) ggX7_record_X6_get
theorem dX7_record_0 : decode cX7_record 0 = .ok (.aload_n 0, 1) := by decide +kernel
theorem dX7_record_1 : decode cX7_record 1 = .ok (.iload_n 1, 1) := by decide +kernel
theorem dX7_record_2 : decode cX7_record 2 = .ok (.iload_n 2, 1) := by decide +kernel
theorem dX7_record_3 : decode cX7_record 3 = .ok (.invokevirtual 148, 3) := by decide +kernel
theorem dX7_record_6 : decode cX7_record 6 = .ok (.ifCond .eq 50, 3) := by decide +kernel
theorem dX7_record_9 : decode cX7_record 9 = .ok (.iload 4, 2) := by decide +kernel
theorem dX7_record_11 : decode cX7_record 11 = .ok (.i2l, 1) := by decide +kernel
theorem dX7_record_12 : decode cX7_record 12 = .ok (.lconst 0, 1) := by decide +kernel
theorem dX7_record_13 : decode cX7_record 13 = .ok (.ldc2_w 183, 3) := by decide +kernel
theorem dX7_record_16 : decode cX7_record 16 = .ok (.invokestatic 76, 3) := by decide +kernel
theorem dX7_record_19 : decode cX7_record 19 = .ok (.ifCond .eq 37, 3) := by decide +kernel
theorem dX7_record_22 : decode cX7_record 22 = .ok (.iload_n 3, 1) := by decide +kernel
theorem dX7_record_23 : decode cX7_record 23 = .ok (.i2l, 1) := by decide +kernel
theorem dX7_record_24 : decode cX7_record 24 = .ok (.aload_n 0, 1) := by decide +kernel
theorem dX7_record_25 : decode cX7_record 25 = .ok (.getfield 11, 3) := by decide +kernel
theorem dX7_record_28 : decode cX7_record 28 = .ok (.iload_n 2, 1) := by decide +kernel
theorem dX7_record_29 : decode cX7_record 29 = .ok (.aaload, 1) := by decide +kernel
theorem dX7_record_30 : decode cX7_record 30 = .ok (.iload_n 1, 1) := by decide +kernel
theorem dX7_record_31 : decode cX7_record 31 = .ok (.aaload, 1) := by decide +kernel
theorem dX7_record_32 : decode cX7_record 32 = .ok (.getfield 134, 3) := by decide +kernel
theorem dX7_record_35 : decode cX7_record 35 = .ok (.i2l, 1) := by decide +kernel
theorem dX7_record_36 : decode cX7_record 36 = .ok (.aload_n 0, 1) := by decide +kernel
theorem dX7_record_37 : decode cX7_record 37 = .ok (.getfield 11, 3) := by decide +kernel
theorem dX7_record_40 : decode cX7_record 40 = .ok (.iload_n 2, 1) := by decide +kernel
theorem dX7_record_41 : decode cX7_record 41 = .ok (.aaload, 1) := by decide +kernel
theorem dX7_record_42 : decode cX7_record 42 = .ok (.iload_n 1, 1) := by decide +kernel
theorem dX7_record_43 : decode cX7_record 43 = .ok (.aaload, 1) := by decide +kernel
theorem dX7_record_44 : decode cX7_record 44 = .ok (.getfield 89, 3) := by decide +kernel
theorem dX7_record_47 : decode cX7_record 47 = .ok (.iconst 1, 1) := by decide +kernel
theorem dX7_record_48 : decode cX7_record 48 = .ok (.isub, 1) := by decide +kernel
theorem dX7_record_49 : decode cX7_record 49 = .ok (.i2l, 1) := by decide +kernel
theorem dX7_record_50 : decode cX7_record 50 = .ok (.invokestatic 76, 3) := by decide +kernel
theorem dX7_record_53 : decode cX7_record 53 = .ok (.ifCond .ne 7, 3) := by decide +kernel
theorem dX7_record_56 : decode cX7_record 56 = .ok (.ldc2_w 185, 3) := by decide +kernel
theorem dX7_record_59 : decode cX7_record 59 = .ok (.lreturn, 1) := by decide +kernel
theorem dX7_record_60 : decode cX7_record 60 = .ok (.aload_n 0, 1) := by decide +kernel
theorem dX7_record_61 : decode cX7_record 61 = .ok (.getfield 11, 3) := by decide +kernel
theorem dX7_record_64 : decode cX7_record 64 = .ok (.iload_n 2, 1) := by decide +kernel
theorem dX7_record_65 : decode cX7_record 65 = .ok (.aaload, 1) := by decide +kernel
theorem dX7_record_66 : decode cX7_record 66 = .ok (.iload_n 1, 1) := by decide +kernel
theorem dX7_record_67 : decode cX7_record 67 = .ok (.aaload, 1) := by decide +kernel
theorem dX7_record_68 : decode cX7_record 68 = .ok (.iload_n 3, 1) := by decide +kernel
theorem dX7_record_69 : decode cX7_record 69 = .ok (.iload 4, 2) := by decide +kernel
theorem dX7_record_71 : decode cX7_record 71 = .ok (.iconst 3, 1) := by decide +kernel
theorem dX7_record_72 : decode cX7_record 72 = .ok (.if_icmp .ge 8, 3) := by decide +kernel
theorem dX7_record_75 : decode cX7_record 75 = .ok (.iload 4, 2) := by decide +kernel
theorem dX7_record_77 : decode cX7_record 77 = .ok (.goto 7, 3) := by decide +kernel
theorem dX7_record_80 : decode cX7_record 80 = .ok (.iload 4, 2) := by decide +kernel
theorem dX7_record_82 : decode cX7_record 82 = .ok (.iconst 1, 1) := by decide +kernel
theorem dX7_record_83 : decode cX7_record 83 = .ok (.iadd, 1) := by decide +kernel
theorem dX7_record_84 : decode cX7_record 84 = .ok (.invokevirtual 137, 3) := by decide +kernel
theorem dX7_record_87 : decode cX7_record 87 = .ok (.i2l, 1) := by decide +kernel
theorem dX7_record_88 : decode cX7_record 88 = .ok (.lreturn, 1) := by decide +kernel
set_option maxRecDepth 20000 in
theorem ggX7_state_X7_isThere : GoodIn wsX7_state wsX7_isThere := goodIn_r _ [9, 1, 10, 11, 12, 8, 13, 40, 41, 42, 43, 44, 45, 46, 47, 48, 49, 50, 51, 52, 53, 54, 55, 56, 57] (by decide +kernel) (by decide +kernel)
set_option maxRecDepth 20000 in
theorem gX7_state_X7_isThere : GoodIn wsX7_state (wsV RX7 82 RX7 yX7_isThere wsX7_isThere) := goodIn_app (goodIn_of _ (by decide +kernel)) ggX7_state_X7_isThere
set_option maxRecDepth 20000 in
theorem ggX7_state_X7_in : GoodIn wsX7_state wsX7_in := goodIn_r _ [13] (by decide +kernel) (by decide +kernel)
set_option maxRecDepth 20000 in
theorem gX7_state_X7_in : GoodIn wsX7_state (va_wsS RX7 76 yX7_in wsX7_in) := goodIn_app (goodIn_of _ (by decide +kernel)) ggX7_state_X7_in
set_option maxRecDepth 20000 in
theorem ggX7_state_X7_own : GoodIn wsX7_state wsX7_own := goodIn_r _ [17, 2, 18, 19, 20, 21, 8, 22, 23, 24, 11, 12, 13, 40, 41, 42, 43, 44, 45, 46, 47, 48, 49, 50, 51, 52, 53, 54, 55, 56, 57] (by decide +kernel) (by decide +kernel)
set_option maxRecDepth 20000 in
theorem gX7_state_X7_own : GoodIn wsX7_state (wsV RX7 95 RX7 yX7_own wsX7_own) := goodIn_app (goodIn_of _ (by decide +kernel)) ggX7_state_X7_own
set_option maxRecDepth 20000 in
theorem ggX7_state_X7_firstOpen : GoodIn wsX7_state wsX7_firstOpen := goodIn_r _ [27, 28, 29, 30, 31, 32, 33, 34, 35, 36, 37, 38, 8, 39, 58, 59, 60, 61, 62, 63, 64] (by decide +kernel) (by decide +kernel)
set_option maxRecDepth 20000 in
theorem gX7_state_X7_firstOpen : GoodIn wsX7_state (va_wsS RX7 169 yX7_firstOpen wsX7_firstOpen) := goodIn_app (goodIn_of _ (by decide +kernel)) ggX7_state_X7_firstOpen
theorem dX7_state_0 : decode cX7_state 0 = .ok (.aload_n 0, 1) := by decide +kernel
theorem dX7_state_1 : decode cX7_state 1 = .ok (.iload_n 1, 1) := by decide +kernel
theorem dX7_state_2 : decode cX7_state 2 = .ok (.invokevirtual 82, 3) := by decide +kernel
theorem dX7_state_5 : decode cX7_state 5 = .ok (.ifCond .eq 15, 3) := by decide +kernel
theorem dX7_state_8 : decode cX7_state 8 = .ok (.iload_n 2, 1) := by decide +kernel
theorem dX7_state_9 : decode cX7_state 9 = .ok (.i2l, 1) := by decide +kernel
theorem dX7_state_10 : decode cX7_state 10 = .ok (.lconst 0, 1) := by decide +kernel
theorem dX7_state_11 : decode cX7_state 11 = .ok (.ldc2_w 80, 3) := by decide +kernel
theorem dX7_state_14 : decode cX7_state 14 = .ok (.invokestatic 76, 3) := by decide +kernel
theorem dX7_state_17 : decode cX7_state 17 = .ok (.ifCond .ne 5, 3) := by decide +kernel
theorem dX7_state_20 : decode cX7_state 20 = .ok (.iconst (-1), 1) := by decide +kernel
theorem dX7_state_21 : decode cX7_state 21 = .ok (.ireturn, 1) := by decide +kernel
theorem dX7_state_22 : decode cX7_state 22 = .ok (.iload_n 2, 1) := by decide +kernel
theorem dX7_state_23 : decode cX7_state 23 = .ok (.tableswitch 46 0 2 #[25, 32, 39], 25) := by decide +kernel
theorem dX7_state_48 : decode cX7_state 48 = .ok (.aload_n 0, 1) := by decide +kernel
theorem dX7_state_49 : decode cX7_state 49 = .ok (.getfield 22, 3) := by decide +kernel
theorem dX7_state_52 : decode cX7_state 52 = .ok (.iload_n 1, 1) := by decide +kernel
theorem dX7_state_53 : decode cX7_state 53 = .ok (.iaload, 1) := by decide +kernel
theorem dX7_state_54 : decode cX7_state 54 = .ok (.ireturn, 1) := by decide +kernel
theorem dX7_state_55 : decode cX7_state 55 = .ok (.aload_n 0, 1) := by decide +kernel
theorem dX7_state_56 : decode cX7_state 56 = .ok (.getfield 25, 3) := by decide +kernel
theorem dX7_state_59 : decode cX7_state 59 = .ok (.iload_n 1, 1) := by decide +kernel
theorem dX7_state_60 : decode cX7_state 60 = .ok (.iaload, 1) := by decide +kernel
theorem dX7_state_61 : decode cX7_state 61 = .ok (.ireturn, 1) := by decide +kernel
theorem dX7_state_62 : decode cX7_state 62 = .ok (.aload_n 0, 1) := by decide +kernel
theorem dX7_state_63 : decode cX7_state 63 = .ok (.getfield 31, 3) := by decide +kernel
theorem dX7_state_66 : decode cX7_state 66 = .ok (.iload_n 1, 1) := by decide +kernel
theorem dX7_state_67 : decode cX7_state 67 = .ok (.iaload, 1) := by decide +kernel
theorem dX7_state_68 : decode cX7_state 68 = .ok (.ireturn, 1) := by decide +kernel
theorem dX7_state_69 : decode cX7_state 69 = .ok (.aload_n 0, 1) := by decide +kernel
theorem dX7_state_70 : decode cX7_state 70 = .ok (.iload_n 1, 1) := by decide +kernel
theorem dX7_state_71 : decode cX7_state 71 = .ok (.invokevirtual 95, 3) := by decide +kernel
theorem dX7_state_74 : decode cX7_state 74 = .ok (.ifnonnull 7, 3) := by decide +kernel
theorem dX7_state_77 : decode cX7_state 77 = .ok (.iconst (-1), 1) := by decide +kernel
theorem dX7_state_78 : decode cX7_state 78 = .ok (.goto 11, 3) := by decide +kernel
theorem dX7_state_81 : decode cX7_state 81 = .ok (.aload_n 0, 1) := by decide +kernel
theorem dX7_state_82 : decode cX7_state 82 = .ok (.iload_n 1, 1) := by decide +kernel
theorem dX7_state_83 : decode cX7_state 83 = .ok (.invokevirtual 95, 3) := by decide +kernel
theorem dX7_state_86 : decode cX7_state 86 = .ok (.invokestatic 169, 3) := by decide +kernel
theorem dX7_state_89 : decode cX7_state 89 = .ok (.ireturn, 1) := by decide +kernel
set_option maxRecDepth 20000 in
theorem ggX7_count_X7_in : GoodIn wsX7_count wsX7_in := goodIn_r _ [8] (by decide +kernel) (by decide +kernel)
set_option maxRecDepth 20000 in
theorem gX7_count_X7_in : GoodIn wsX7_count (va_wsS RX7 76 yX7_in wsX7_in) := goodIn_app (goodIn_of _ (by decide +kernel)) ggX7_count_X7_in
theorem dX7_count_0 : decode cX7_count 0 = .ok (.iload_n 1, 1) := by decide +kernel
theorem dX7_count_1 : decode cX7_count 1 = .ok (.i2l, 1) := by decide +kernel
theorem dX7_count_2 : decode cX7_count 2 = .ok (.lconst 0, 1) := by decide +kernel
theorem dX7_count_3 : decode cX7_count 3 = .ok (.ldc2_w 173, 3) := by decide +kernel
theorem dX7_count_6 : decode cX7_count 6 = .ok (.invokestatic 76, 3) := by decide +kernel
theorem dX7_count_9 : decode cX7_count 9 = .ok (.ifCond .ne 5, 3) := by decide +kernel
theorem dX7_count_12 : decode cX7_count 12 = .ok (.iconst (-1), 1) := by decide +kernel
theorem dX7_count_13 : decode cX7_count 13 = .ok (.ireturn, 1) := by decide +kernel
theorem dX7_count_14 : decode cX7_count 14 = .ok (.iload_n 1, 1) := by decide +kernel
theorem dX7_count_15 : decode cX7_count 15 = .ok (.ifCond .ne 10, 3) := by decide +kernel
theorem dX7_count_18 : decode cX7_count 18 = .ok (.aload_n 0, 1) := by decide +kernel
theorem dX7_count_19 : decode cX7_count 19 = .ok (.getfield 119, 3) := by decide +kernel
theorem dX7_count_22 : decode cX7_count 22 = .ok (.goto 23, 3) := by decide +kernel
theorem dX7_count_25 : decode cX7_count 25 = .ok (.iload_n 1, 1) := by decide +kernel
theorem dX7_count_26 : decode cX7_count 26 = .ok (.iconst 1, 1) := by decide +kernel
theorem dX7_count_27 : decode cX7_count 27 = .ok (.if_icmp .ne 10, 3) := by decide +kernel
theorem dX7_count_30 : decode cX7_count 30 = .ok (.aload_n 0, 1) := by decide +kernel
theorem dX7_count_31 : decode cX7_count 31 = .ok (.getfield 61, 3) := by decide +kernel
theorem dX7_count_34 : decode cX7_count 34 = .ok (.goto 11, 3) := by decide +kernel
theorem dX7_count_37 : decode cX7_count 37 = .ok (.aload_n 0, 1) := by decide +kernel
theorem dX7_count_38 : decode cX7_count 38 = .ok (.getfield 37, 3) := by decide +kernel
theorem dX7_count_41 : decode cX7_count 41 = .ok (.iload_n 1, 1) := by decide +kernel
theorem dX7_count_42 : decode cX7_count 42 = .ok (.iconst 2, 1) := by decide +kernel
theorem dX7_count_43 : decode cX7_count 43 = .ok (.isub, 1) := by decide +kernel
theorem dX7_count_44 : decode cX7_count 44 = .ok (.iaload, 1) := by decide +kernel
theorem dX7_count_45 : decode cX7_count 45 = .ok (.ireturn, 1) := by decide +kernel
end
section
/-! numbers -/
theorem xk_0 : (0 : Int32).toInt = 0 := by decide
theorem xk_1 : (1 : Int32).toInt = 1 := by decide
theorem xk_2 : (2 : Int32).toInt = 2 := by decide
theorem xk_3 : (3 : Int32).toInt = 3 := by decide
theorem xk_4 : (4 : Int32).toInt = 4 := by decide
theorem xk_5 : (5 : Int32).toInt = 5 := by decide
theorem xk_6 : (6 : Int32).toInt = 6 := by decide
theorem xk_7 : (7 : Int32).toInt = 7 := by decide
theorem xk_8 : (8 : Int32).toInt = 8 := by decide
theorem xk_50 : (50 : Int32).toInt = 50 := by decide
theorem xl_0 : (0 : Int64).toInt = 0 := by decide
theorem xl_1 : (1 : Int64).toInt = 1 := by decide
theorem xl_3 : (3 : Int64).toInt = 3 := by decide
theorem xl_4 : (4 : Int64).toInt = 4 := by decide
theorem xl_5 : (5 : Int64).toInt = 5 := by decide
theorem xl_6 : (6 : Int64).toInt = 6 := by decide
theorem xl_7 : (7 : Int64).toInt = 7 := by decide
theorem xl_50 : (50 : Int64).toInt = 50 := by decide
theorem xk_lt (x y : Int32) : x < y ↔ x.toInt < y.toInt := Int32.lt_iff_toInt_lt
theorem xk_le (x y : Int32) : x ≤ y ↔ x.toInt ≤ y.toInt := Int32.le_iff_toInt_le
theorem xk_eq (x y : Int32) : x = y ↔ x.toInt = y.toInt := Int32.toInt_inj.symm
/-! what the static helpers answer -/
/-- TallyLogs.contains(bits, i) -/
def sp_cn (b i : Int32) : Int32 := if i < 0 then 0 else if 8 ≤ i then 0 else if (b >>> (i &&& 31)) &&& 1 = 1 then 1 else 0
/-- TallyLogsModel.in(v, least, most) -/
def sp_in (v a b : Int64) : Int32 := if lg_cmp v a < 0 then 0 else if 0 < lg_cmp v b then 0 else 1
/-- TallyLogsModel.isHandle(h) -/
def sp_ih (h : Int32) : Int32 := if h < 0 then 0 else if 6 ≤ h - h / 8 * 8 then 0 else 1
/-- TallyLogs.leastOf(bits) -/
def sp_lo (b : Int32) : Int32 := if sp_cn b 0 = 0 then if sp_cn b 1 = 0 then if sp_cn b 2 = 0 then if sp_cn b 3 = 0 then if sp_cn b 4 = 0 then if sp_cn b 5 = 0 then if sp_cn b 6 = 0 then if sp_cn b 7 = 0 then (-1) else 7 else 6 else 5 else 4 else 3 else 2 else 1 else 0
theorem sp_in_0 (x : Int32) (a b : Int64) : sp_in x.toInt64 a b = 0 ↔ ¬ (a.toInt ≤ x.toInt ∧ x.toInt ≤ b.toInt) := by
  unfold sp_in
  simp only [lg_cmp_lt, lg_cmp_gt, Int64.lt_iff_toInt_lt, Int32.toInt_toInt64]
  by_cases h1 : x.toInt < a.toInt
  · rw [if_pos h1]
    exact ⟨fun _ h => absurd h.1 (by omega), fun _ => rfl⟩
  · by_cases h2 : b.toInt < x.toInt
    · rw [if_neg h1, if_pos h2]
      exact ⟨fun _ h => absurd h.2 (by omega), fun _ => rfl⟩
    · rw [if_neg h1, if_neg h2]
      exact ⟨fun h => absurd h (by decide), fun h => absurd ⟨by omega, by omega⟩ h⟩
theorem xin_of {x : Int32} {n : Nat} (h0 : 0 ≤ x.toInt) (h1 : x.toInt < n) : vp_in x n := vp_in_iff.mpr ⟨h0, h1⟩
/-- the int shift to the right without sign -/
def sp_us (x y : Int32) : Int32 := (x.toUInt32 >>> (y.toUInt32 &&& Int32.toUInt32 31)).toInt32
/-- Integer.bitCount -/
def sp_b1 (x : Int32) : Int32 := x - (sp_us x 1 &&& 1431655765)
def sp_b2 (x : Int32) : Int32 := (x &&& 858993459) + (sp_us x 2 &&& 858993459)
def sp_b3 (x : Int32) : Int32 := (x + sp_us x 4) &&& 252645135
def sp_b4 (x : Int32) : Int32 := x + sp_us x 8
def sp_b5 (x : Int32) : Int32 := x + sp_us x 16
def sp_bc (x : Int32) : Int32 := sp_b5 (sp_b4 (sp_b3 (sp_b2 (sp_b1 x)))) &&& 63
/-- Integer.numberOfTrailingZeros -/
def sp_n0 (a n : Int32) : Int32 := n + sp_us a 1
def sp_n1 (a n : Int32) : Int32 := if a ≤ 4 then sp_n0 a n else sp_n0 (sp_us a 2) (n + 2)
def sp_n2 (a n : Int32) : Int32 := if a ≤ 16 then sp_n1 a n else sp_n1 (sp_us a 4) (n + 4)
def sp_n3 (a n : Int32) : Int32 := if a ≤ 256 then sp_n2 a n else sp_n2 (sp_us a 8) (n + 8)
def sp_n4 (a n : Int32) : Int32 := if a ≤ 65536 then sp_n3 a n else sp_n3 (sp_us a 16) (n + 16)
def sp_n5 (x : Int32) : Int32 := (x ^^^ (-1)) &&& (x - 1)
def sp_nz (x : Int32) : Int32 := if 0 < sp_n5 x then sp_n4 (sp_n5 x) 1 else sp_n5 x &&& 32
/-- of the five lowest bits both say the lowest one -/
theorem sp_lo_nz : ∀ j, j < 32 → ¬ nI j = 0 → sp_lo (nI j) = sp_nz (nI j) := by decide +kernel
theorem sp_cn31 : ∀ j, j < 8 → sp_cn 31 (nI j) = (if j < 5 then 1 else 0) := by decide +kernel
/-! the class as it is made: its cells at the addresses v, its array classes c -/
def fR (v : Nat → Nat) : Nat → Option Nat := va_up (va_up (va_up (va_up (va_up (va_up (fun _ => none) 0 (some (v 4))) 1 (some (v 5))) 2 (some (v 6))) 3 (some (v 7))) 4 (some (v 8))) 5 (some (v 9))
def fG (v : Nat → Nat) : Nat → Option Nat := va_up (va_up (va_up (va_up (fun _ => none) 0 (some (v 10))) 1 (some (v 11))) 2 (some (v 12))) 3 (some (v 13))
abbrev fxW (v : Nat → Nat) (c : Nat → ClassId) : va_W := [(v 0, .inr (5, [.ref (v 1), .ref (v 2), .ref (v 3), .int 31, .int 0, .null])), (v 1, .inl (c 0, 4, .inr (.inr (.inr (.inr (fun _ => none)))))), (v 2, .inl (c 1, 6, .inr (.inr (.inr (.inr (fR v)))))), (v 3, .inl (c 2, 4, .inr (.inr (.inr (.inr (fG v)))))), (v 4, .inr (3, [.int 0, .int (-1), .int 0, .int 0, .int (-1), .int 0])), (v 5, .inr (3, [.int 1, .int (-1), .int 0, .int 0, .int (-1), .int 0])), (v 6, .inr (3, [.int 2, .int (-1), .int 0, .int 0, .int (-1), .int 0])), (v 7, .inr (3, [.int 3, .int (-1), .int 0, .int 0, .int (-1), .int 0])), (v 8, .inr (3, [.int 4, .int (-1), .int 0, .int 0, .int (-1), .int 0])), (v 9, .inr (3, [.int 5, .int (-1), .int 0, .int 0, .int (-1), .int 0])), (v 10, .inr (1, [.int 0, .int 0, .ref (v 14)])), (v 11, .inr (1, [.int 0, .int 0, .ref (v 15)])), (v 12, .inr (1, [.int 0, .int 0, .ref (v 16)])), (v 13, .inr (1, [.int 0, .int 0, .ref (v 17)])), (v 14, .inl (c 3, 4, .inl (fun _ => 0))), (v 15, .inl (c 3, 4, .inl (fun _ => 0))), (v 16, .inl (c 3, 4, .inl (fun _ => 0))), (v 17, .inl (c 3, 4, .inl (fun _ => 0)))]
abbrev fxT (c : Nat → ClassId) : List (ClassId × FieldType) := [(c 0, .object "TallyLogs$Partition"), (c 1, .object "TallyLogs$Producer"), (c 2, .object "TallyLogs$Group"), (c 3, .int)]
abbrev fxB (dC : Nat → ClassId) (dI : Nat → Nat → Nat) (v : Nat → Nat) (c : Nat → ClassId) (U : State) : Prop := va_P (dC, dI) vwCl (fxW v c) U.heap ∧ va_K (dC, dI) vwCl (fxT c) U
theorem fx_blind {dC : Nat → ClassId} {dI : Nat → Nat → Nat} {v : Nat → Nat} {c : Nat → ClassId} {av : List Value} : FrameBlind (va_Pc av (fxB dC dI v c)) := fun a U g mk q => by
  obtain ⟨q0, qP, qK⟩ := q
  exact ⟨q0, qP, va_K.moved (u := U) (U := U.calling g mk a) (Vm.Alike.refl U.vm) qK⟩
theorem fx_pre {dC : Nat → ClassId} {dI : Nat → Nat → Nat} {v : Nat → Nat} {c : Nat → ClassId} {s U : State} {H : Heap} (hP : va_P (dC, dI) vwCl (fxW v c) H) (hK : va_K (dC, dI) vwCl (fxT c) s) (hU : U.heap = H) (hW : s.WarmedH U.vm) : fxB dC dI v c U := ⟨by rw [hU]; exact hP, va_K.moved hW.alike hK⟩
/-- which producer's cell: none where there is none -/
def pAt (v : Nat → Nat) (k : Int32) : Option Nat := if k < 0 then none else if k < 6 then fR v k.toNatClampNeg else none
def pOf (v : Nat → Nat) (h : Int32) : Option Nat := if 0 ≤ h then pAt v (h - h / 8 * 8) else none
def gAt (v : Nat → Nat) (k : Int32) : Option Nat := if k < 0 then none else if k < 4 then fG v k.toNatClampNeg else none
theorem fR_at (v : Nat → Nat) : ∀ j, j < 6 → fR v j = some (v (4 + j)) := fun j hj => by
  rcases (show j = 0 ∨ j = 1 ∨ j = 2 ∨ j = 3 ∨ j = 4 ∨ j = 5 by omega) with rfl | rfl | rfl | rfl | rfl | rfl <;> rfl
theorem fG_at (v : Nat → Nat) : ∀ j, j < 4 → fG v j = some (v (10 + j)) := fun j hj => by
  rcases (show j = 0 ∨ j = 1 ∨ j = 2 ∨ j = 3 by omega) with rfl | rfl | rfl | rfl <;> rfl
theorem pAt_cs (v : Nat → Nat) (k : Int32) : (¬ (0 ≤ k.toInt ∧ k.toInt < 6) ∧ pAt v k = none) ∨ ∃ j : Nat, j < 6 ∧ k = nI j ∧ pAt v k = some (v (4 + j)) := by
  unfold pAt
  by_cases h0 : k < 0
  · rw [if_pos h0]
    rw [xk_lt, xk_0] at h0
    exact Or.inl ⟨fun q => by omega, rfl⟩
  · by_cases h6 : k < 6
    · rw [if_neg h0, if_pos h6]
      obtain ⟨j, hj, rfl⟩ := nI_of h0
      rw [xk_lt, xk_6, nI_toInt hj] at h6
      refine Or.inr ⟨j, by omega, rfl, ?_⟩
      rw [nI_clamp hj, fR_at v j (by omega)]
    · rw [if_neg h0, if_neg h6]
      rw [xk_lt, xk_6] at h6
      exact Or.inl ⟨fun q => by omega, rfl⟩
theorem gAt_cs (v : Nat → Nat) (k : Int32) : (¬ (0 ≤ k.toInt ∧ k.toInt < 4) ∧ gAt v k = none) ∨ ∃ j : Nat, j < 4 ∧ k = nI j ∧ gAt v k = some (v (10 + j)) := by
  unfold gAt
  by_cases h0 : k < 0
  · rw [if_pos h0]
    rw [xk_lt, xk_0] at h0
    exact Or.inl ⟨fun q => by omega, rfl⟩
  · by_cases h6 : k < 4
    · rw [if_neg h0, if_pos h6]
      obtain ⟨j, hj, rfl⟩ := nI_of h0
      rw [xk_lt, xk_4, nI_toInt hj] at h6
      refine Or.inr ⟨j, by omega, rfl, ?_⟩
      rw [nI_clamp hj, fG_at v j (by omega)]
    · rw [if_neg h0, if_neg h6]
      rw [xk_lt, xk_4] at h6
      exact Or.inl ⟨fun q => by omega, rfl⟩
/-- a handle's producer: of h below 0, or of a number that is none, no producer -/
theorem pOf_cs (v : Nat → Nat) (h : Int32) : (sp_ih h = 0 ∧ pOf v h = none) ∨ ∃ j : Nat, j < 6 ∧ sp_ih h = 1 ∧ 0 ≤ h ∧ h - h / 8 * 8 = nI j ∧ pOf v h = some (v (4 + j)) := by
  unfold pOf
  by_cases h0 : 0 ≤ h
  · rw [if_pos h0]
    have hn : ¬ h < 0 := by rw [xk_lt]; rw [xk_le] at h0; omega
    obtain ⟨a, ha, rfl⟩ := nI_of hn
    have e8 : nI a - nI a / 8 * 8 = nI (a % 8) := pk_rem (d := 8) ha (by decide) (by decide)
    rcases pAt_cs v (nI a - nI a / 8 * 8) with ⟨h1, h2⟩ | ⟨j, hj, h1, h2⟩
    · refine Or.inl ⟨?_, h2⟩
      rw [e8, nI_toInt (by omega)] at h1
      unfold sp_ih
      rw [if_neg hn, if_pos]
      rw [e8, xk_le, xk_6, nI_toInt (by omega)]
      omega
    · refine Or.inr ⟨j, hj, ?_, h0, h1, h2⟩
      unfold sp_ih
      rw [if_neg hn, if_neg]
      rw [h1, xk_le, xk_6, nI_toInt (by omega)]
      omega
  · rw [if_neg h0]
    refine Or.inl ⟨?_, rfl⟩
    unfold sp_ih
    rw [if_pos]
    rw [xk_lt]; rw [xk_le] at h0; omega
/-- the cell of producer j -/
theorem fx_pr (v : Nat → Nat) (c : Nat → ClassId) : ∀ j, j < 6 → (fxW v c)[4 + j]? = some (v (4 + j), .inr (3, [.int (nI j), .int (-1), .int 0, .int 0, .int (-1), .int 0])) := fun j hj => by
  rcases (show j = 0 ∨ j = 1 ∨ j = 2 ∨ j = 3 ∨ j = 4 ∨ j = 5 by omega) with rfl | rfl | rfl | rfl | rfl | rfl <;> rfl
theorem xneg1 {h : Int32} (h0 : 0 ≤ h) : ¬ (-1 : Int32) = h / 8 := by
  have hn : ¬ h < 0 := by rw [xk_lt]; rw [xk_le] at h0; omega
  obtain ⟨a, ha, rfl⟩ := nI_of hn
  have e8 : nI a / 8 = nI (a / 8) := pk_div (d := 8) ha (by decide) (by decide)
  rw [e8, xk_eq, nI_toInt (by omega), show (-1 : Int32).toInt = -1 by decide]
  omega
def sp_bg (h : Int32) : Int32 := if sp_ih h = 0 then (-1) else (-4)
def sp_st (k : Int32) : Int32 := if 0 ≤ k.toInt ∧ k.toInt < 6 then (-2) else (-1)
def sp_rg (k : Int32) : Int32 := if 0 ≤ k.toInt ∧ k.toInt < 6 then k else (-1)
def sp_ct (w : Int32) : Int32 := if w.toInt = 0 then 0 else if w.toInt = 1 then 31 else if 2 ≤ w.toInt ∧ w.toInt < 8 then 0 else (-1)
def sp_tk (n : Int32) : Int32 := if 1 ≤ n.toInt ∧ n.toInt ≤ 50 then 0 else (-1)
def sp_cr (n k : Int32) : Int32 := if 0 ≤ n.toInt ∧ n.toInt < 5 ∧ 0 ≤ k.toInt then 0 else (-1)
def sp_mb (g k : Int32) : Int32 := if 0 ≤ g.toInt ∧ g.toInt < 4 ∧ 0 ≤ k.toInt ∧ k.toInt < 8 then 1 else (-1)
theorem xct {w : Int32} (h : ¬ w < 2) (h' : w < 8) : 0 ≤ (w - 2).toInt ∧ (w - 2).toInt < 6 := by
  rw [xk_lt, xk_2] at h
  rw [xk_lt, xk_8] at h'
  have hn : ¬ w < 0 := by rw [xk_lt, xk_0]; omega
  obtain ⟨a, ha, rfl⟩ := nI_of hn
  rw [nI_toInt ha] at h h'
  have e2 : nI a - 2 = nI (a - 2) := pk_sub (b := 2) (by omega)
  rw [e2, nI_toInt (by omega)]
  omega
theorem xup_iff (n : Int32) : sp_cn 31 n = 0 ↔ ¬ (0 ≤ n.toInt ∧ n.toInt < 5) := by
  by_cases h0 : n < 0
  · unfold sp_cn
    rw [if_pos h0]
    rw [xk_lt, xk_0] at h0
    exact ⟨fun _ q => by omega, fun _ => rfl⟩
  · by_cases h8 : 8 ≤ n
    · unfold sp_cn
      rw [if_neg h0, if_pos h8]
      rw [xk_le, xk_8] at h8
      exact ⟨fun _ q => by omega, fun _ => rfl⟩
    · obtain ⟨a, ha, rfl⟩ := nI_of h0
      rw [xk_le, xk_8, nI_toInt ha] at h8
      rw [sp_cn31 a (by omega), nI_toInt ha]
      by_cases h5 : a < 5
      · rw [if_pos h5]
        exact ⟨fun q => absurd q (by decide), fun q => absurd ⟨by omega, by omega⟩ q⟩
      · rw [if_neg h5]
        exact ⟨fun _ q => by omega, fun _ => rfl⟩
/-! the model as it is made -/
def spF (f : Nat → Int32) (n : Nat) (x : Int32) : Nat → Int32 := fun j => if j < n then x else f j
theorem spF_lt {f : Nat → Int32} {n j : Nat} {x : Int32} (h : j < n) : spF f n x j = x := by unfold spF; rw [if_pos h]
abbrev mxW (w : Nat → Nat) (cz ci : ClassId) : va_W := [(w 0, .inr (7, [.ref (w 1), .ref (w 2), .ref (w 3), .ref (w 4), .ref (w 5), .ref (w 6), .ref (w 7), .ref (w 8), .ref (w 9), .ref (w 10), .ref (w 11), .ref (w 12), .ref (w 13), .ref (w 14), .ref (w 15), .ref (w 16), .int 31, .int 0])), (w 2, .inl (cz, 4, .inl (fun _ => 0))), (w 3, .inl (ci, 4, .inl (fun _ => 0))), (w 4, .inl (ci, 4, .inl (spF (fun _ => 0) 4 (-1)))), (w 5, .inl (ci, 4, .inl (fun _ => 0))), (w 6, .inl (ci, 4, .inl (fun _ => 0))), (w 7, .inl (ci, 4, .inl (fun _ => 0))), (w 8, .inl (ci, 6, .inl (spF (fun _ => 0) 6 (-1)))), (w 9, .inl (ci, 6, .inl (fun _ => 0))), (w 10, .inl (ci, 6, .inl (fun _ => 0))), (w 11, .inl (ci, 6, .inl (fun _ => 0))), (w 12, .inl (ci, 6, .inl (fun _ => 0))), (w 13, .inl (ci, 4, .inl (fun _ => 0))), (w 14, .inl (ci, 4, .inl (fun _ => 0))), (w 15, .inl (ci, 16, .inl (fun _ => 0))), (w 16, .inl (ci, 6, .inl (fun _ => 0)))]
abbrev mxT (cz ci : ClassId) : List (ClassId × FieldType) := [(cz, .boolean), (ci, .int)]
abbrev mxB (dC : Nat → ClassId) (dI : Nat → Nat → Nat) (w : Nat → Nat) (cz ci : ClassId) (U : State) : Prop := va_P (dC, dI) vwCl (mxW w cz ci) U.heap ∧ va_K (dC, dI) vwCl (mxT cz ci) U
theorem mx_blind {dC : Nat → ClassId} {dI : Nat → Nat → Nat} {w : Nat → Nat} {cz ci : ClassId} {av : List Value} : FrameBlind (va_Pc av (mxB dC dI w cz ci)) := fun a U g mk q => by
  obtain ⟨q0, qP, qK⟩ := q
  exact ⟨q0, qP, va_K.moved (u := U) (U := U.calling g mk a) (Vm.Alike.refl U.vm) qK⟩
theorem mx_pre {dC : Nat → ClassId} {dI : Nat → Nat → Nat} {w : Nat → Nat} {cz ci : ClassId} {s U : State} {H : Heap} (hP : va_P (dC, dI) vwCl (mxW w cz ci) H) (hK : va_K (dC, dI) vwCl (mxT cz ci) s) (hU : U.heap = H) (hW : s.WarmedH U.vm) : mxB dC dI w cz ci U := ⟨by rw [hU]; exact hP, va_K.moved hW.alike hK⟩
/-- isUp(n) of all five nodes -/
def sp_up (n : Int32) : Int32 := if 0 ≤ n.toInt ∧ n.toInt < 5 then 1 else 0
theorem sp_up5 : ∀ j, j < 5 → ((31 : Int32) >>> (nI j &&& 31)) &&& 1 = 1 := by decide +kernel
theorem sp_up1 {n : Int32} (h : 0 ≤ n.toInt ∧ n.toInt ≤ 4) : ((31 : Int32) >>> (n &&& 31)) &&& 1 = 1 := by
  have hn : ¬ n < 0 := by rw [xk_lt, xk_0]; omega
  obtain ⟨a, ha, rfl⟩ := nI_of hn
  rw [nI_toInt ha] at h
  exact sp_up5 a (by omega)
theorem sp_up_0 (n : Int32) : sp_up n = 0 ↔ ¬ (0 ≤ n.toInt ∧ n.toInt < 5) := by
  unfold sp_up
  by_cases h : 0 ≤ n.toInt ∧ n.toInt < 5
  · rw [if_pos h]; exact ⟨fun q => absurd q (by decide), fun q => absurd h q⟩
  · rw [if_neg h]; exact ⟨fun _ => h, fun _ => rfl⟩
/-- a handle that is one: its producer's place -/
theorem sp_ih1 {h : Int32} (q : ¬ sp_ih h = 0) : 0 ≤ h ∧ vp_in (h - h / 8 * 8) 6 := by
  rcases pOf_cs (fun _ => 0) h with ⟨h1, -⟩ | ⟨j, hj, -, h0, h8, -⟩
  · exact absurd h1 q
  · exact ⟨h0, by rw [h8]; exact vp_in_nI hj (by decide)⟩
theorem vp_lt {x : Int32} {n : Nat} (h : vp_in x n) : x.toNatClampNeg < n := Nat.not_le.mp fun q => h (Or.inr q)
theorem wq_gen {p : Program} {l : Launch} {e : Env} {R : Room} {s : State} {m : MethodId} {args : Array Value} {below : List Frame} {meth : Method} {c : Code} {H : Heap} {locs : List Loc} {cells slots : Nat} {Q : State → Prop} {g : JFrame} (k : ∀ Q' : State → Prop, Q' = Q → W p l e R s m args below meth c H locs cells slots Q' g) : W p l e R s m args below meth c H locs cells slots Q g := k Q rfl
/-- create on a fresh object -/
def sp_ce (p r n : Int32) : Int32 := if ¬ (0 ≤ p.toInt ∧ p.toInt < 4) then (-1) else if ¬ (1 ≤ n.toInt ∧ n.toInt ≤ (sp_bc (r &&& 31)).toInt) then (-1) else if (r &&& 31) &&& 31 = 0 then (-2) else sp_lo ((r &&& 31) &&& 31)
end
section
set_option maxHeartbeats 4000000 in
set_option maxRecDepth 100000 in
/-- contains(bits, i) -/
theorem c_X5_contains (l : Launch) (bi : Int32) (ix : Int32) : Met l yX5_contains wsX5_contains ({ frames := 0, cells := 0, slots := 0, locals := 0 }) (fun v _ => v = ([.int bi, .int ix] : List Value).toArray) (vp_Si (fun r => r = sp_cn bi ix)) 0 0 (fun _ => False) := by
  refine Met.ofW (cc := cX5_contains) (maxL := 2) (ret := (some .boolean)) (by decide) rfl ?_
  intro p e s m args below meth c s₁ B hml hv
  subst hv
  have hx := B.exec
  have hb := B.bytes
  have hr := B.returns
  have hts := atoms_spec (ws := wsX5_contains) B.pre
  have hown : s.vm.findClass RX5 = some m.cls := findClass_of_methodNamed B.named
  have hlocks := B.notSynchronized
  have hl := lv_entry ([.int bi, .int ix]) (n := 2) (Nat.le_of_ble_eq_true rfl)
  rw [lg_entry_eq]
  generalize (lg_sl ([.int bi, .int ix]) ++ List.replicate (2 - (lg_sl ([.int bi, .int ix])).length) Slot.unset).toArray = ls at hl ⊢
  have hl : lv_has ls 2 [(0, .int bi), (1, .int ix)] := hl
  refine lv_iload_n hx hb dX5_contains_0 rfl (lv_at hl 1 rfl) ?_
  refine lv_if_lt (tgt := 23) hx hb dX5_contains_1 (by decide) (fun c1 => ?_) (fun c1 => ?_)
  · refine lv_iconst (v := 0) hx hb dX5_contains_23 (by decide) ?_
    exact W.zret (v := 0) hx hb hr (by decide) (fun t ht hW => ⟨0, rfl, by rw [sp_cn, if_pos c1], ht⟩) (fun _ h => by cases h) dX5_contains_24
  · refine lv_iload_n hx hb dX5_contains_4 rfl (lv_at hl 1 rfl) ?_
    refine lv_bipush (v := 8) hx hb dX5_contains_5 (by decide) ?_
    refine lv_icmp_ge (tgt := 23) hx hb dX5_contains_7 (by decide) (fun c2 => ?_) (fun c2 => ?_)
    · refine lv_iconst (v := 0) hx hb dX5_contains_23 (by decide) ?_
      exact W.zret (v := 0) hx hb hr (by decide) (fun t ht hW => ⟨0, rfl, by rw [sp_cn, if_neg c1, if_pos c2], ht⟩) (fun _ h => by cases h) dX5_contains_24
    · refine lv_iload_n hx hb dX5_contains_10 rfl (lv_at hl 0 rfl) ?_
      refine lv_iload_n hx hb dX5_contains_11 rfl (lv_at hl 1 rfl) ?_
      refine lv_ishr hx hb dX5_contains_12 ?_
      refine lv_topi (fun v3 ev3 => ?_)
      refine lv_iconst (v := 1) hx hb dX5_contains_13 (by decide) ?_
      refine lv_iand hx hb dX5_contains_14 ?_
      refine lv_topi (fun v4 ev4 => ?_)
      refine lv_iconst (v := 1) hx hb dX5_contains_15 (by decide) ?_
      refine lv_icmp_ne (tgt := 23) hx hb dX5_contains_16 (by decide) (fun c5 => ?_) (fun c5 => ?_)
      · refine lv_iconst (v := 0) hx hb dX5_contains_23 (by decide) ?_
        exact W.zret (v := 0) hx hb hr (by decide) (fun t ht hW => ⟨0, rfl, by subst ev3; subst ev4; rw [sp_cn, if_neg c1, if_neg c2, if_neg c5], ht⟩) (fun _ h => by cases h) dX5_contains_24
      · refine lv_iconst (v := 1) hx hb dX5_contains_19 (by decide) ?_
        refine lv_goto (tgt := 24) hx hb dX5_contains_20 (by decide) ?_
        exact W.zret (v := 1) hx hb hr (by decide) (fun t ht hW => ⟨1, rfl, by subst ev3; subst ev4; rw [sp_cn, if_neg c1, if_neg c2, if_pos c5], ht⟩) (fun _ h => by cases h) dX5_contains_24
set_option maxHeartbeats 4000000 in
set_option maxRecDepth 100000 in
/-- generationOf(handle) -/
theorem c_X5_generationOf (l : Launch) (hd : Int32) : Met l yX5_generationOf wsX5_generationOf ({ frames := 0, cells := 0, slots := 0, locals := 0 }) (fun v _ => v = ([.int hd] : List Value).toArray) (vp_Si (fun r => r = hd / 8)) 0 0 (fun _ => False) := by
  refine Met.ofW (cc := cX5_generationOf) (maxL := 1) (ret := (some .int)) (by decide) rfl ?_
  intro p e s m args below meth c s₁ B hml hv
  subst hv
  have hx := B.exec
  have hb := B.bytes
  have hr := B.returns
  have hts := atoms_spec (ws := wsX5_generationOf) B.pre
  have hown : s.vm.findClass RX5 = some m.cls := findClass_of_methodNamed B.named
  have hlocks := B.notSynchronized
  have hl := lv_entry ([.int hd]) (n := 1) (Nat.le_of_ble_eq_true rfl)
  rw [lg_entry_eq]
  generalize (lg_sl ([.int hd]) ++ List.replicate (1 - (lg_sl ([.int hd])).length) Slot.unset).toArray = ls at hl ⊢
  have hl : lv_has ls 1 [(0, .int hd)] := hl
  refine lv_iload_n hx hb dX5_generationOf_0 rfl (lv_at hl 0 rfl) ?_
  refine lv_bipush (v := 8) hx hb dX5_generationOf_1 (by decide) ?_
  refine lv_idiv hx hb dX5_generationOf_3 (by decide) ?_
  refine lv_topi (fun v6 ev6 => ?_)
  exact W.iret (v := v6) hx hb hr (fun t ht hW => ⟨v6, rfl, by subst ev6; rfl, ht⟩) (fun _ h => by cases h) dX5_generationOf_4
set_option maxHeartbeats 4000000 in
set_option maxRecDepth 100000 in
/-- isHandle(h) -/
theorem c_X7_isHandle (l : Launch) (hd : Int32) : Met l yX7_isHandle wsX7_isHandle ({ frames := 0, cells := 0, slots := 0, locals := 0 }) (fun v _ => v = ([.int hd] : List Value).toArray) (vp_Si (fun r => r = sp_ih hd)) 0 0 (fun _ => False) := by
  refine Met.ofW (cc := cX7_isHandle) (maxL := 1) (ret := (some .boolean)) (by decide) rfl ?_
  intro p e s m args below meth c s₁ B hml hv
  subst hv
  have hx := B.exec
  have hb := B.bytes
  have hr := B.returns
  have hts := atoms_spec (ws := wsX7_isHandle) B.pre
  have hown : s.vm.findClass RX7 = some m.cls := findClass_of_methodNamed B.named
  have hlocks := B.notSynchronized
  have hl := lv_entry ([.int hd]) (n := 1) (Nat.le_of_ble_eq_true rfl)
  rw [lg_entry_eq]
  generalize (lg_sl ([.int hd]) ++ List.replicate (1 - (lg_sl ([.int hd])).length) Slot.unset).toArray = ls at hl ⊢
  have hl : lv_has ls 1 [(0, .int hd)] := hl
  refine lv_iload_n hx hb dX7_isHandle_0 rfl (lv_at hl 0 rfl) ?_
  refine lv_if_lt (tgt := 17) hx hb dX7_isHandle_1 (by decide) (fun c7 => ?_) (fun c7 => ?_)
  · refine lv_iconst (v := 0) hx hb dX7_isHandle_17 (by decide) ?_
    exact W.zret (v := 0) hx hb hr (by decide) (fun t ht hW => ⟨0, rfl, by rw [sp_ih, if_pos c7], ht⟩) (fun _ h => by cases h) dX7_isHandle_18
  · refine lv_iload_n hx hb dX7_isHandle_4 rfl (lv_at hl 0 rfl) ?_
    refine lv_bipush (v := 8) hx hb dX7_isHandle_5 (by decide) ?_
    refine lv_irem hx hb dX7_isHandle_7 (by decide) ?_
    refine lv_topi (fun v8 ev8 => ?_)
    refine lv_bipush (v := 6) hx hb dX7_isHandle_8 (by decide) ?_
    refine lv_icmp_ge (tgt := 17) hx hb dX7_isHandle_10 (by decide) (fun c9 => ?_) (fun c9 => ?_)
    · refine lv_iconst (v := 0) hx hb dX7_isHandle_17 (by decide) ?_
      exact W.zret (v := 0) hx hb hr (by decide) (fun t ht hW => ⟨0, rfl, by subst ev8; rw [sp_ih, if_neg c7, if_pos c9], ht⟩) (fun _ h => by cases h) dX7_isHandle_18
    · refine lv_iconst (v := 1) hx hb dX7_isHandle_13 (by decide) ?_
      refine lv_goto (tgt := 18) hx hb dX7_isHandle_14 (by decide) ?_
      exact W.zret (v := 1) hx hb hr (by decide) (fun t ht hW => ⟨1, rfl, by subst ev8; rw [sp_ih, if_neg c7, if_neg c9], ht⟩) (fun _ h => by cases h) dX7_isHandle_18
set_option maxHeartbeats 4000000 in
set_option maxRecDepth 100000 in
/-- in(v, least, most) -/
theorem c_X7_in (l : Launch) (va vb vc : Int64) : Met l yX7_in wsX7_in ({ frames := 0, cells := 0, slots := 0, locals := 0 }) (fun v _ => v = ([.long va, .long vb, .long vc] : List Value).toArray) (vp_Si (fun r => r = sp_in va vb vc)) 0 0 (fun _ => False) := by
  refine Met.ofW (cc := cX7_in) (maxL := 6) (ret := (some .boolean)) (by decide) rfl ?_
  intro p e s m args below meth c s₁ B hml hv
  subst hv
  have hx := B.exec
  have hb := B.bytes
  have hr := B.returns
  have hts := atoms_spec (ws := wsX7_in) B.pre
  have hown : s.vm.findClass RX7 = some m.cls := findClass_of_methodNamed B.named
  have hlocks := B.notSynchronized
  have hl := lv_entry ([.long va, .long vb, .long vc]) (n := 6) (Nat.le_of_ble_eq_true rfl)
  rw [lg_entry_eq]
  generalize (lg_sl ([.long va, .long vb, .long vc]) ++ List.replicate (6 - (lg_sl ([.long va, .long vb, .long vc])).length) Slot.unset).toArray = ls at hl ⊢
  have hl : lv_has ls 6 [(0, .long va), (2, .long vb), (4, .long vc)] := hl
  refine lv_lload_n hx hb dX7_in_0 rfl (lv_at hl 0 rfl) ?_
  refine lv_lload_n hx hb dX7_in_1 rfl (lv_at hl 1 rfl) ?_
  refine W.lcmp hx hb dX7_in_2 ?_
  refine lv_if_lt (tgt := 17) hx hb dX7_in_3 (by decide) (fun c10 => ?_) (fun c10 => ?_)
  · refine lv_iconst (v := 0) hx hb dX7_in_17 (by decide) ?_
    exact W.zret (v := 0) hx hb hr (by decide) (fun t ht hW => ⟨0, rfl, by rw [sp_in, if_pos c10], ht⟩) (fun _ h => by cases h) dX7_in_18
  · refine lv_lload_n hx hb dX7_in_6 rfl (lv_at hl 0 rfl) ?_
    refine lv_lload hx hb dX7_in_7 (lv_at hl 2 rfl) ?_
    refine W.lcmp hx hb dX7_in_9 ?_
    refine lv_if_gt (tgt := 17) hx hb dX7_in_10 (by decide) (fun c11 => ?_) (fun c11 => ?_)
    · refine lv_iconst (v := 0) hx hb dX7_in_17 (by decide) ?_
      exact W.zret (v := 0) hx hb hr (by decide) (fun t ht hW => ⟨0, rfl, by rw [sp_in, if_neg c10, if_pos c11], ht⟩) (fun _ h => by cases h) dX7_in_18
    · refine lv_iconst (v := 1) hx hb dX7_in_13 (by decide) ?_
      refine lv_goto (tgt := 18) hx hb dX7_in_14 (by decide) ?_
      exact W.zret (v := 1) hx hb hr (by decide) (fun t ht hW => ⟨1, rfl, by rw [sp_in, if_neg c10, if_neg c11], ht⟩) (fun _ h => by cases h) dX7_in_18
set_option maxHeartbeats 4000000 in
set_option maxRecDepth 100000 in
/-- leastOf(bits) -/
theorem c_X5_leastOf (l : Launch) (bi : Int32) : Met l yX5_leastOf wsX5_leastOf ({ frames := 1, cells := 0, slots := 0, locals := 21 }) (fun v _ => v = ([.int bi] : List Value).toArray) (vp_Si (fun r => r = sp_lo bi)) 0 0 (fun _ => False) := by
  refine Met.ofW (cc := cX5_leastOf) (maxL := 2) (ret := (some .int)) (by decide) rfl ?_
  intro p e s m args below meth c s₁ B hml hv
  subst hv
  have hx := B.exec
  have hb := B.bytes
  have hr := B.returns
  have hts := atoms_spec (ws := wsX5_leastOf) B.pre
  have hown : s.vm.findClass RX5 = some m.cls := findClass_of_methodNamed B.named
  have hlocks := B.notSynchronized
  have hl := lv_entry ([.int bi]) (n := 2) (Nat.le_of_ble_eq_true rfl)
  rw [lg_entry_eq]
  generalize (lg_sl ([.int bi]) ++ List.replicate (2 - (lg_sl ([.int bi])).length) Slot.unset).toArray = ls at hl ⊢
  have hl : lv_has ls 2 [(0, .int bi)] := hl
  refine lv_iconst (v := 0) hx hb dX5_leastOf_0 (by decide) ?_
  refine lv_istore_n (lv' := [(1, .int 0), (0, .int bi)]) hx hb dX5_leastOf_1 rfl hl (by decide) rfl (fun ls hl => ?_)
  refine lv_iload_n hx hb dX5_leastOf_2 rfl (lv_at hl 0 rfl) ?_
  refine lv_bipush (v := 8) hx hb dX5_leastOf_3 (by decide) ?_
  refine lv_icmp_ge (tgt := 24) hx hb dX5_leastOf_5 (by decide) (fun c12 => ?_) (fun c12 => ?_)
  · exact absurd c12 (by decide)
  refine lv_iload_n hx hb dX5_leastOf_8 rfl (lv_at hl 1 rfl) ?_
  refine lv_iload_n hx hb dX5_leastOf_9 rfl (lv_at hl 0 rfl) ?_
  refine vp_callSi (W.runS (As := [.int bi, .int 0]) (rest := []) ⟨hx, hb, hml, hown, hts⟩ (c_X5_contains l bi 0) (va_cwS 2 hts gX5_leastOf_X5_contains rfl rfl rfl (by decide +kernel) ⟨Nat.le_of_ble_eq_true rfl, Nat.le_of_ble_eq_true rfl⟩) preEq rfl rfl hl.1 rfl (lv_room (Nat.le_of_ble_eq_true rfl)) dX5_leastOf_10 ⟨Nat.le_of_ble_eq_true rfl, Nat.le_of_ble_eq_true rfl⟩) (fun r13 hr13 => ?_)
  subst hr13
  refine lv_if_eq (tgt := 18) hx hb dX5_leastOf_13 (by decide) (fun c14 => ?_) (fun c14 => ?_)
  · refine lv_iinc (v := 1) (lv' := [(1, .int 1), (0, .int bi)]) hx hb dX5_leastOf_18 hl (k := 0) rfl (by decide) (by decide) rfl (fun ls hl => ?_)
    refine lv_goto (tgt := 2) hx hb dX5_leastOf_21 (by decide) ?_
    refine lv_iload_n hx hb dX5_leastOf_2 rfl (lv_at hl 0 rfl) ?_
    refine lv_bipush (v := 8) hx hb dX5_leastOf_3 (by decide) ?_
    refine lv_icmp_ge (tgt := 24) hx hb dX5_leastOf_5 (by decide) (fun c15 => ?_) (fun c15 => ?_)
    · exact absurd c15 (by decide)
    refine lv_iload_n hx hb dX5_leastOf_8 rfl (lv_at hl 1 rfl) ?_
    refine lv_iload_n hx hb dX5_leastOf_9 rfl (lv_at hl 0 rfl) ?_
    refine vp_callSi (W.runS (As := [.int bi, .int 1]) (rest := []) ⟨hx, hb, hml, hown, hts⟩ (c_X5_contains l bi 1) (va_cwS 2 hts gX5_leastOf_X5_contains rfl rfl rfl (by decide +kernel) ⟨Nat.le_of_ble_eq_true rfl, Nat.le_of_ble_eq_true rfl⟩) preEq rfl rfl hl.1 rfl (lv_room (Nat.le_of_ble_eq_true rfl)) dX5_leastOf_10 ⟨Nat.le_of_ble_eq_true rfl, Nat.le_of_ble_eq_true rfl⟩) (fun r16 hr16 => ?_)
    subst hr16
    refine lv_if_eq (tgt := 18) hx hb dX5_leastOf_13 (by decide) (fun c17 => ?_) (fun c17 => ?_)
    · refine lv_iinc (v := 2) (lv' := [(1, .int 2), (0, .int bi)]) hx hb dX5_leastOf_18 hl (k := 0) rfl (by decide) (by decide) rfl (fun ls hl => ?_)
      refine lv_goto (tgt := 2) hx hb dX5_leastOf_21 (by decide) ?_
      refine lv_iload_n hx hb dX5_leastOf_2 rfl (lv_at hl 0 rfl) ?_
      refine lv_bipush (v := 8) hx hb dX5_leastOf_3 (by decide) ?_
      refine lv_icmp_ge (tgt := 24) hx hb dX5_leastOf_5 (by decide) (fun c18 => ?_) (fun c18 => ?_)
      · exact absurd c18 (by decide)
      refine lv_iload_n hx hb dX5_leastOf_8 rfl (lv_at hl 1 rfl) ?_
      refine lv_iload_n hx hb dX5_leastOf_9 rfl (lv_at hl 0 rfl) ?_
      refine vp_callSi (W.runS (As := [.int bi, .int 2]) (rest := []) ⟨hx, hb, hml, hown, hts⟩ (c_X5_contains l bi 2) (va_cwS 2 hts gX5_leastOf_X5_contains rfl rfl rfl (by decide +kernel) ⟨Nat.le_of_ble_eq_true rfl, Nat.le_of_ble_eq_true rfl⟩) preEq rfl rfl hl.1 rfl (lv_room (Nat.le_of_ble_eq_true rfl)) dX5_leastOf_10 ⟨Nat.le_of_ble_eq_true rfl, Nat.le_of_ble_eq_true rfl⟩) (fun r19 hr19 => ?_)
      subst hr19
      refine lv_if_eq (tgt := 18) hx hb dX5_leastOf_13 (by decide) (fun c20 => ?_) (fun c20 => ?_)
      · refine lv_iinc (v := 3) (lv' := [(1, .int 3), (0, .int bi)]) hx hb dX5_leastOf_18 hl (k := 0) rfl (by decide) (by decide) rfl (fun ls hl => ?_)
        refine lv_goto (tgt := 2) hx hb dX5_leastOf_21 (by decide) ?_
        refine lv_iload_n hx hb dX5_leastOf_2 rfl (lv_at hl 0 rfl) ?_
        refine lv_bipush (v := 8) hx hb dX5_leastOf_3 (by decide) ?_
        refine lv_icmp_ge (tgt := 24) hx hb dX5_leastOf_5 (by decide) (fun c21 => ?_) (fun c21 => ?_)
        · exact absurd c21 (by decide)
        refine lv_iload_n hx hb dX5_leastOf_8 rfl (lv_at hl 1 rfl) ?_
        refine lv_iload_n hx hb dX5_leastOf_9 rfl (lv_at hl 0 rfl) ?_
        refine vp_callSi (W.runS (As := [.int bi, .int 3]) (rest := []) ⟨hx, hb, hml, hown, hts⟩ (c_X5_contains l bi 3) (va_cwS 2 hts gX5_leastOf_X5_contains rfl rfl rfl (by decide +kernel) ⟨Nat.le_of_ble_eq_true rfl, Nat.le_of_ble_eq_true rfl⟩) preEq rfl rfl hl.1 rfl (lv_room (Nat.le_of_ble_eq_true rfl)) dX5_leastOf_10 ⟨Nat.le_of_ble_eq_true rfl, Nat.le_of_ble_eq_true rfl⟩) (fun r22 hr22 => ?_)
        subst hr22
        refine lv_if_eq (tgt := 18) hx hb dX5_leastOf_13 (by decide) (fun c23 => ?_) (fun c23 => ?_)
        · refine lv_iinc (v := 4) (lv' := [(1, .int 4), (0, .int bi)]) hx hb dX5_leastOf_18 hl (k := 0) rfl (by decide) (by decide) rfl (fun ls hl => ?_)
          refine lv_goto (tgt := 2) hx hb dX5_leastOf_21 (by decide) ?_
          refine lv_iload_n hx hb dX5_leastOf_2 rfl (lv_at hl 0 rfl) ?_
          refine lv_bipush (v := 8) hx hb dX5_leastOf_3 (by decide) ?_
          refine lv_icmp_ge (tgt := 24) hx hb dX5_leastOf_5 (by decide) (fun c24 => ?_) (fun c24 => ?_)
          · exact absurd c24 (by decide)
          refine lv_iload_n hx hb dX5_leastOf_8 rfl (lv_at hl 1 rfl) ?_
          refine lv_iload_n hx hb dX5_leastOf_9 rfl (lv_at hl 0 rfl) ?_
          refine vp_callSi (W.runS (As := [.int bi, .int 4]) (rest := []) ⟨hx, hb, hml, hown, hts⟩ (c_X5_contains l bi 4) (va_cwS 2 hts gX5_leastOf_X5_contains rfl rfl rfl (by decide +kernel) ⟨Nat.le_of_ble_eq_true rfl, Nat.le_of_ble_eq_true rfl⟩) preEq rfl rfl hl.1 rfl (lv_room (Nat.le_of_ble_eq_true rfl)) dX5_leastOf_10 ⟨Nat.le_of_ble_eq_true rfl, Nat.le_of_ble_eq_true rfl⟩) (fun r25 hr25 => ?_)
          subst hr25
          refine lv_if_eq (tgt := 18) hx hb dX5_leastOf_13 (by decide) (fun c26 => ?_) (fun c26 => ?_)
          · refine lv_iinc (v := 5) (lv' := [(1, .int 5), (0, .int bi)]) hx hb dX5_leastOf_18 hl (k := 0) rfl (by decide) (by decide) rfl (fun ls hl => ?_)
            refine lv_goto (tgt := 2) hx hb dX5_leastOf_21 (by decide) ?_
            refine lv_iload_n hx hb dX5_leastOf_2 rfl (lv_at hl 0 rfl) ?_
            refine lv_bipush (v := 8) hx hb dX5_leastOf_3 (by decide) ?_
            refine lv_icmp_ge (tgt := 24) hx hb dX5_leastOf_5 (by decide) (fun c27 => ?_) (fun c27 => ?_)
            · exact absurd c27 (by decide)
            refine lv_iload_n hx hb dX5_leastOf_8 rfl (lv_at hl 1 rfl) ?_
            refine lv_iload_n hx hb dX5_leastOf_9 rfl (lv_at hl 0 rfl) ?_
            refine vp_callSi (W.runS (As := [.int bi, .int 5]) (rest := []) ⟨hx, hb, hml, hown, hts⟩ (c_X5_contains l bi 5) (va_cwS 2 hts gX5_leastOf_X5_contains rfl rfl rfl (by decide +kernel) ⟨Nat.le_of_ble_eq_true rfl, Nat.le_of_ble_eq_true rfl⟩) preEq rfl rfl hl.1 rfl (lv_room (Nat.le_of_ble_eq_true rfl)) dX5_leastOf_10 ⟨Nat.le_of_ble_eq_true rfl, Nat.le_of_ble_eq_true rfl⟩) (fun r28 hr28 => ?_)
            subst hr28
            refine lv_if_eq (tgt := 18) hx hb dX5_leastOf_13 (by decide) (fun c29 => ?_) (fun c29 => ?_)
            · refine lv_iinc (v := 6) (lv' := [(1, .int 6), (0, .int bi)]) hx hb dX5_leastOf_18 hl (k := 0) rfl (by decide) (by decide) rfl (fun ls hl => ?_)
              refine lv_goto (tgt := 2) hx hb dX5_leastOf_21 (by decide) ?_
              refine lv_iload_n hx hb dX5_leastOf_2 rfl (lv_at hl 0 rfl) ?_
              refine lv_bipush (v := 8) hx hb dX5_leastOf_3 (by decide) ?_
              refine lv_icmp_ge (tgt := 24) hx hb dX5_leastOf_5 (by decide) (fun c30 => ?_) (fun c30 => ?_)
              · exact absurd c30 (by decide)
              refine lv_iload_n hx hb dX5_leastOf_8 rfl (lv_at hl 1 rfl) ?_
              refine lv_iload_n hx hb dX5_leastOf_9 rfl (lv_at hl 0 rfl) ?_
              refine vp_callSi (W.runS (As := [.int bi, .int 6]) (rest := []) ⟨hx, hb, hml, hown, hts⟩ (c_X5_contains l bi 6) (va_cwS 2 hts gX5_leastOf_X5_contains rfl rfl rfl (by decide +kernel) ⟨Nat.le_of_ble_eq_true rfl, Nat.le_of_ble_eq_true rfl⟩) preEq rfl rfl hl.1 rfl (lv_room (Nat.le_of_ble_eq_true rfl)) dX5_leastOf_10 ⟨Nat.le_of_ble_eq_true rfl, Nat.le_of_ble_eq_true rfl⟩) (fun r31 hr31 => ?_)
              subst hr31
              refine lv_if_eq (tgt := 18) hx hb dX5_leastOf_13 (by decide) (fun c32 => ?_) (fun c32 => ?_)
              · refine lv_iinc (v := 7) (lv' := [(1, .int 7), (0, .int bi)]) hx hb dX5_leastOf_18 hl (k := 0) rfl (by decide) (by decide) rfl (fun ls hl => ?_)
                refine lv_goto (tgt := 2) hx hb dX5_leastOf_21 (by decide) ?_
                refine lv_iload_n hx hb dX5_leastOf_2 rfl (lv_at hl 0 rfl) ?_
                refine lv_bipush (v := 8) hx hb dX5_leastOf_3 (by decide) ?_
                refine lv_icmp_ge (tgt := 24) hx hb dX5_leastOf_5 (by decide) (fun c33 => ?_) (fun c33 => ?_)
                · exact absurd c33 (by decide)
                refine lv_iload_n hx hb dX5_leastOf_8 rfl (lv_at hl 1 rfl) ?_
                refine lv_iload_n hx hb dX5_leastOf_9 rfl (lv_at hl 0 rfl) ?_
                refine vp_callSi (W.runS (As := [.int bi, .int 7]) (rest := []) ⟨hx, hb, hml, hown, hts⟩ (c_X5_contains l bi 7) (va_cwS 2 hts gX5_leastOf_X5_contains rfl rfl rfl (by decide +kernel) ⟨Nat.le_of_ble_eq_true rfl, Nat.le_of_ble_eq_true rfl⟩) preEq rfl rfl hl.1 rfl (lv_room (Nat.le_of_ble_eq_true rfl)) dX5_leastOf_10 ⟨Nat.le_of_ble_eq_true rfl, Nat.le_of_ble_eq_true rfl⟩) (fun r34 hr34 => ?_)
                subst hr34
                refine lv_if_eq (tgt := 18) hx hb dX5_leastOf_13 (by decide) (fun c35 => ?_) (fun c35 => ?_)
                · refine lv_iinc (v := 8) (lv' := [(1, .int 8), (0, .int bi)]) hx hb dX5_leastOf_18 hl (k := 0) rfl (by decide) (by decide) rfl (fun ls hl => ?_)
                  refine lv_goto (tgt := 2) hx hb dX5_leastOf_21 (by decide) ?_
                  refine lv_iload_n hx hb dX5_leastOf_2 rfl (lv_at hl 0 rfl) ?_
                  refine lv_bipush (v := 8) hx hb dX5_leastOf_3 (by decide) ?_
                  refine lv_icmp_ge (tgt := 24) hx hb dX5_leastOf_5 (by decide) (fun c36 => ?_) (fun c36 => ?_)
                  rotate_left
                  · exact absurd c36 (by decide)
                  refine lv_iconst (v := (-1)) hx hb dX5_leastOf_24 (by decide) ?_
                  exact W.iret (v := (-1)) hx hb hr (fun t ht hW => ⟨(-1), rfl, by rw [sp_lo, if_pos c14, if_pos c17, if_pos c20, if_pos c23, if_pos c26, if_pos c29, if_pos c32, if_pos c35], ht⟩) (fun _ h => by cases h) dX5_leastOf_25
                · refine lv_iload_n hx hb dX5_leastOf_16 rfl (lv_at hl 0 rfl) ?_
                  exact W.iret (v := 7) hx hb hr (fun t ht hW => ⟨7, rfl, by rw [sp_lo, if_pos c14, if_pos c17, if_pos c20, if_pos c23, if_pos c26, if_pos c29, if_pos c32, if_neg c35], ht⟩) (fun _ h => by cases h) dX5_leastOf_17
              · refine lv_iload_n hx hb dX5_leastOf_16 rfl (lv_at hl 0 rfl) ?_
                exact W.iret (v := 6) hx hb hr (fun t ht hW => ⟨6, rfl, by rw [sp_lo, if_pos c14, if_pos c17, if_pos c20, if_pos c23, if_pos c26, if_pos c29, if_neg c32], ht⟩) (fun _ h => by cases h) dX5_leastOf_17
            · refine lv_iload_n hx hb dX5_leastOf_16 rfl (lv_at hl 0 rfl) ?_
              exact W.iret (v := 5) hx hb hr (fun t ht hW => ⟨5, rfl, by rw [sp_lo, if_pos c14, if_pos c17, if_pos c20, if_pos c23, if_pos c26, if_neg c29], ht⟩) (fun _ h => by cases h) dX5_leastOf_17
          · refine lv_iload_n hx hb dX5_leastOf_16 rfl (lv_at hl 0 rfl) ?_
            exact W.iret (v := 4) hx hb hr (fun t ht hW => ⟨4, rfl, by rw [sp_lo, if_pos c14, if_pos c17, if_pos c20, if_pos c23, if_neg c26], ht⟩) (fun _ h => by cases h) dX5_leastOf_17
        · refine lv_iload_n hx hb dX5_leastOf_16 rfl (lv_at hl 0 rfl) ?_
          exact W.iret (v := 3) hx hb hr (fun t ht hW => ⟨3, rfl, by rw [sp_lo, if_pos c14, if_pos c17, if_pos c20, if_neg c23], ht⟩) (fun _ h => by cases h) dX5_leastOf_17
      · refine lv_iload_n hx hb dX5_leastOf_16 rfl (lv_at hl 0 rfl) ?_
        exact W.iret (v := 2) hx hb hr (fun t ht hW => ⟨2, rfl, by rw [sp_lo, if_pos c14, if_pos c17, if_neg c20], ht⟩) (fun _ h => by cases h) dX5_leastOf_17
    · refine lv_iload_n hx hb dX5_leastOf_16 rfl (lv_at hl 0 rfl) ?_
      exact W.iret (v := 1) hx hb hr (fun t ht hW => ⟨1, rfl, by rw [sp_lo, if_pos c14, if_neg c17], ht⟩) (fun _ h => by cases h) dX5_leastOf_17
  · refine lv_iload_n hx hb dX5_leastOf_16 rfl (lv_at hl 0 rfl) ?_
    exact W.iret (v := 0) hx hb hr (fun t ht hW => ⟨0, rfl, by rw [sp_lo, if_neg c14], ht⟩) (fun _ h => by cases h) dX5_leastOf_17
set_option maxHeartbeats 4000000 in
set_option maxRecDepth 100000 in
/-- Integer.bitCount -/
theorem c_J6_bitCount_0f7a4 (l : Launch) (ia : Int32) : Met l yJ6_bitCount_0f7a4 wsJ6_bitCount_0f7a4 ({ frames := 0, cells := 0, slots := 0, locals := 0 }) (fun v _ => v = ([.int ia] : List Value).toArray) (vp_Si (fun r => r = sp_bc ia)) 0 0 (fun _ => False) := by
  refine Met.ofW (cc := cJ6_bitCount_0f7a4) (maxL := 1) (ret := (some .int)) (by decide) rfl ?_
  intro p e s m args below meth c s₁ B hml hv
  subst hv
  have hx := B.exec
  have hb := B.bytes
  have hr := B.returns
  have hts := atoms_spec (ws := wsJ6_bitCount_0f7a4) B.pre
  have hown : s.vm.findClass RJ6 = some m.cls := findClass_of_methodNamed B.named
  have hlocks := B.notSynchronized
  have hl := lv_entry ([.int ia]) (n := 1) (Nat.le_of_ble_eq_true rfl)
  rw [lg_entry_eq]
  generalize (lg_sl ([.int ia]) ++ List.replicate (1 - (lg_sl ([.int ia])).length) Slot.unset).toArray = ls at hl ⊢
  have hl : lv_has ls 1 [(0, .int ia)] := hl
  refine lv_iload_n hx hb dJ6_bitCount_0f7a4_0 rfl (lv_at hl 0 rfl) ?_
  refine lv_iload_n hx hb dJ6_bitCount_0f7a4_1 rfl (lv_at hl 0 rfl) ?_
  refine lv_iconst (v := 1) hx hb dJ6_bitCount_0f7a4_2 (by decide) ?_
  refine lv_iushr hx hb dJ6_bitCount_0f7a4_3 rfl ?_
  refine lv_topi (fun v37 ev37 => ?_)
  refine lv_ldcw hx hb hown (hts (.constant RJ6 265 1431655765) (by decide +kernel)) dJ6_bitCount_0f7a4_4 ?_
  refine lv_iand hx hb dJ6_bitCount_0f7a4_7 ?_
  refine lv_topi (fun v38 ev38 => ?_)
  refine lv_isub hx hb dJ6_bitCount_0f7a4_8 ?_
  refine lv_topi (fun v39 ev39 => ?_)
  refine lv_istore_n (lv' := [(0, .int v39)]) hx hb dJ6_bitCount_0f7a4_9 rfl hl (by decide) rfl (fun ls hl => ?_)
  refine lv_iload_n hx hb dJ6_bitCount_0f7a4_10 rfl (lv_at hl 0 rfl) ?_
  refine lv_ldcw hx hb hown (hts (.constant RJ6 266 858993459) (by decide +kernel)) dJ6_bitCount_0f7a4_11 ?_
  refine lv_iand hx hb dJ6_bitCount_0f7a4_14 ?_
  refine lv_topi (fun v40 ev40 => ?_)
  refine lv_iload_n hx hb dJ6_bitCount_0f7a4_15 rfl (lv_at hl 0 rfl) ?_
  refine lv_iconst (v := 2) hx hb dJ6_bitCount_0f7a4_16 (by decide) ?_
  refine lv_iushr hx hb dJ6_bitCount_0f7a4_17 rfl ?_
  refine lv_topi (fun v41 ev41 => ?_)
  refine lv_ldcw hx hb hown (hts (.constant RJ6 266 858993459) (by decide +kernel)) dJ6_bitCount_0f7a4_18 ?_
  refine lv_iand hx hb dJ6_bitCount_0f7a4_21 ?_
  refine lv_topi (fun v42 ev42 => ?_)
  refine lv_iadd hx hb dJ6_bitCount_0f7a4_22 ?_
  refine lv_topi (fun v43 ev43 => ?_)
  refine lv_istore_n (lv' := [(0, .int v43)]) hx hb dJ6_bitCount_0f7a4_23 rfl hl (by decide) rfl (fun ls hl => ?_)
  refine lv_iload_n hx hb dJ6_bitCount_0f7a4_24 rfl (lv_at hl 0 rfl) ?_
  refine lv_iload_n hx hb dJ6_bitCount_0f7a4_25 rfl (lv_at hl 0 rfl) ?_
  refine lv_iconst (v := 4) hx hb dJ6_bitCount_0f7a4_26 (by decide) ?_
  refine lv_iushr hx hb dJ6_bitCount_0f7a4_27 rfl ?_
  refine lv_topi (fun v44 ev44 => ?_)
  refine lv_iadd hx hb dJ6_bitCount_0f7a4_28 ?_
  refine lv_topi (fun v45 ev45 => ?_)
  refine lv_ldcw hx hb hown (hts (.constant RJ6 267 252645135) (by decide +kernel)) dJ6_bitCount_0f7a4_29 ?_
  refine lv_iand hx hb dJ6_bitCount_0f7a4_32 ?_
  refine lv_topi (fun v46 ev46 => ?_)
  refine lv_istore_n (lv' := [(0, .int v46)]) hx hb dJ6_bitCount_0f7a4_33 rfl hl (by decide) rfl (fun ls hl => ?_)
  refine lv_iload_n hx hb dJ6_bitCount_0f7a4_34 rfl (lv_at hl 0 rfl) ?_
  refine lv_iload_n hx hb dJ6_bitCount_0f7a4_35 rfl (lv_at hl 0 rfl) ?_
  refine lv_bipush (v := 8) hx hb dJ6_bitCount_0f7a4_36 (by decide) ?_
  refine lv_iushr hx hb dJ6_bitCount_0f7a4_38 rfl ?_
  refine lv_topi (fun v47 ev47 => ?_)
  refine lv_iadd hx hb dJ6_bitCount_0f7a4_39 ?_
  refine lv_topi (fun v48 ev48 => ?_)
  refine lv_istore_n (lv' := [(0, .int v48)]) hx hb dJ6_bitCount_0f7a4_40 rfl hl (by decide) rfl (fun ls hl => ?_)
  refine lv_iload_n hx hb dJ6_bitCount_0f7a4_41 rfl (lv_at hl 0 rfl) ?_
  refine lv_iload_n hx hb dJ6_bitCount_0f7a4_42 rfl (lv_at hl 0 rfl) ?_
  refine lv_bipush (v := 16) hx hb dJ6_bitCount_0f7a4_43 (by decide) ?_
  refine lv_iushr hx hb dJ6_bitCount_0f7a4_45 rfl ?_
  refine lv_topi (fun v49 ev49 => ?_)
  refine lv_iadd hx hb dJ6_bitCount_0f7a4_46 ?_
  refine lv_topi (fun v50 ev50 => ?_)
  refine lv_istore_n (lv' := [(0, .int v50)]) hx hb dJ6_bitCount_0f7a4_47 rfl hl (by decide) rfl (fun ls hl => ?_)
  refine lv_iload_n hx hb dJ6_bitCount_0f7a4_48 rfl (lv_at hl 0 rfl) ?_
  refine lv_bipush (v := 63) hx hb dJ6_bitCount_0f7a4_49 (by decide) ?_
  refine lv_iand hx hb dJ6_bitCount_0f7a4_51 ?_
  refine lv_topi (fun v51 ev51 => ?_)
  exact W.iret (v := v51) hx hb hr (fun t ht hW => ⟨v51, rfl, by subst ev37; subst ev38; subst ev39; subst ev40; subst ev41; subst ev42; subst ev43; subst ev44; subst ev45; subst ev46; subst ev47; subst ev48; subst ev49; subst ev50; subst ev51; rfl, ht⟩) (fun _ h => by cases h) dJ6_bitCount_0f7a4_52
set_option maxHeartbeats 4000000 in
set_option maxRecDepth 100000 in
/-- Integer.numberOfTrailingZeros -/
theorem c_J6_numberOfTrailingZeros_0f7a4 (l : Launch) (ia : Int32) : Met l yJ6_numberOfTrailingZeros_0f7a4 wsJ6_numberOfTrailingZeros_0f7a4 ({ frames := 0, cells := 0, slots := 0, locals := 0 }) (fun v _ => v = ([.int ia] : List Value).toArray) (vp_Si (fun r => r = sp_nz ia)) 0 0 (fun _ => False) := by
  refine Met.ofW (cc := cJ6_numberOfTrailingZeros_0f7a4) (maxL := 2) (ret := (some .int)) (by decide) rfl ?_
  intro p e s m args below meth c s₁ B hml hv
  subst hv
  have hx := B.exec
  have hb := B.bytes
  have hr := B.returns
  have hts := atoms_spec (ws := wsJ6_numberOfTrailingZeros_0f7a4) B.pre
  have hown : s.vm.findClass RJ6 = some m.cls := findClass_of_methodNamed B.named
  have hlocks := B.notSynchronized
  have hl := lv_entry ([.int ia]) (n := 2) (Nat.le_of_ble_eq_true rfl)
  rw [lg_entry_eq]
  generalize (lg_sl ([.int ia]) ++ List.replicate (2 - (lg_sl ([.int ia])).length) Slot.unset).toArray = ls at hl ⊢
  have hl : lv_has ls 2 [(0, .int ia)] := hl
  refine lv_iload_n hx hb dJ6_numberOfTrailingZeros_0f7a4_0 rfl (lv_at hl 0 rfl) ?_
  refine lv_iconst (v := (-1)) hx hb dJ6_numberOfTrailingZeros_0f7a4_1 (by decide) ?_
  refine lv_ixor hx hb dJ6_numberOfTrailingZeros_0f7a4_2 ?_
  refine lv_topi (fun v52 ev52 => ?_)
  refine lv_iload_n hx hb dJ6_numberOfTrailingZeros_0f7a4_3 rfl (lv_at hl 0 rfl) ?_
  refine lv_iconst (v := 1) hx hb dJ6_numberOfTrailingZeros_0f7a4_4 (by decide) ?_
  refine lv_isub hx hb dJ6_numberOfTrailingZeros_0f7a4_5 ?_
  refine lv_topi (fun v53 ev53 => ?_)
  refine lv_iand hx hb dJ6_numberOfTrailingZeros_0f7a4_6 ?_
  refine lv_topi (fun v54 ev54 => ?_)
  refine lv_istore_n (lv' := [(0, .int v54)]) hx hb dJ6_numberOfTrailingZeros_0f7a4_7 rfl hl (by decide) rfl (fun ls hl => ?_)
  refine lv_iload_n hx hb dJ6_numberOfTrailingZeros_0f7a4_8 rfl (lv_at hl 0 rfl) ?_
  refine lv_if_gt (tgt := 17) hx hb dJ6_numberOfTrailingZeros_0f7a4_9 (by decide) (fun c55 => ?_) (fun c55 => ?_)
  · refine lv_iconst (v := 1) hx hb dJ6_numberOfTrailingZeros_0f7a4_17 (by decide) ?_
    refine lv_istore_n (lv' := [(1, .int 1), (0, .int v54)]) hx hb dJ6_numberOfTrailingZeros_0f7a4_18 rfl hl (by decide) rfl (fun ls hl => ?_)
    refine lv_iload_n hx hb dJ6_numberOfTrailingZeros_0f7a4_19 rfl (lv_at hl 1 rfl) ?_
    refine lv_ldcw hx hb hown (hts (.constant RJ6 264 65536) (by decide +kernel)) dJ6_numberOfTrailingZeros_0f7a4_20 ?_
    refine lv_icmp_le (tgt := 34) hx hb dJ6_numberOfTrailingZeros_0f7a4_23 (by decide) (fun c56 => ?_) (fun c56 => ?_)
    · refine lv_iload_n hx hb dJ6_numberOfTrailingZeros_0f7a4_34 rfl (lv_at hl 1 rfl) ?_
      refine lv_sipush (v := 256) hx hb dJ6_numberOfTrailingZeros_0f7a4_35 (by decide) ?_
      refine lv_icmp_le (tgt := 49) hx hb dJ6_numberOfTrailingZeros_0f7a4_38 (by decide) (fun c57 => ?_) (fun c57 => ?_)
      · refine lv_iload_n hx hb dJ6_numberOfTrailingZeros_0f7a4_49 rfl (lv_at hl 1 rfl) ?_
        refine lv_bipush (v := 16) hx hb dJ6_numberOfTrailingZeros_0f7a4_50 (by decide) ?_
        refine lv_icmp_le (tgt := 62) hx hb dJ6_numberOfTrailingZeros_0f7a4_52 (by decide) (fun c58 => ?_) (fun c58 => ?_)
        · refine lv_iload_n hx hb dJ6_numberOfTrailingZeros_0f7a4_62 rfl (lv_at hl 1 rfl) ?_
          refine lv_iconst (v := 4) hx hb dJ6_numberOfTrailingZeros_0f7a4_63 (by decide) ?_
          refine lv_icmp_le (tgt := 74) hx hb dJ6_numberOfTrailingZeros_0f7a4_64 (by decide) (fun c59 => ?_) (fun c59 => ?_)
          · refine lv_iload_n hx hb dJ6_numberOfTrailingZeros_0f7a4_74 rfl (lv_at hl 0 rfl) ?_
            refine lv_iload_n hx hb dJ6_numberOfTrailingZeros_0f7a4_75 rfl (lv_at hl 1 rfl) ?_
            refine lv_iconst (v := 1) hx hb dJ6_numberOfTrailingZeros_0f7a4_76 (by decide) ?_
            refine lv_iushr hx hb dJ6_numberOfTrailingZeros_0f7a4_77 rfl ?_
            refine lv_topi (fun v60 ev60 => ?_)
            refine lv_iadd hx hb dJ6_numberOfTrailingZeros_0f7a4_78 ?_
            refine lv_topi (fun v61 ev61 => ?_)
            exact W.iret (v := v61) hx hb hr (fun t ht hW => ⟨v61, rfl, by subst ev52; subst ev53; subst ev54; subst ev60; subst ev61; refine Eq.symm ?_; refine (if_pos c55).trans ?_; refine (if_pos c56).trans ?_; refine (if_pos c57).trans ?_; refine (if_pos c58).trans ?_; refine (if_pos c59).trans ?_; rfl, ht⟩) (fun _ h => by cases h) dJ6_numberOfTrailingZeros_0f7a4_79
          · refine lv_iinc (v := 3) (lv' := [(1, .int 3), (0, .int v54)]) hx hb dJ6_numberOfTrailingZeros_0f7a4_67 hl (k := 0) rfl (by decide) (by decide) rfl (fun ls hl => ?_)
            refine lv_iload_n hx hb dJ6_numberOfTrailingZeros_0f7a4_70 rfl (lv_at hl 1 rfl) ?_
            refine lv_iconst (v := 2) hx hb dJ6_numberOfTrailingZeros_0f7a4_71 (by decide) ?_
            refine lv_iushr hx hb dJ6_numberOfTrailingZeros_0f7a4_72 rfl ?_
            refine lv_topi (fun v62 ev62 => ?_)
            refine lv_istore_n (lv' := [(0, .int v62), (1, .int 3)]) hx hb dJ6_numberOfTrailingZeros_0f7a4_73 rfl hl (by decide) rfl (fun ls hl => ?_)
            refine lv_iload_n hx hb dJ6_numberOfTrailingZeros_0f7a4_74 rfl (lv_at hl 1 rfl) ?_
            refine lv_iload_n hx hb dJ6_numberOfTrailingZeros_0f7a4_75 rfl (lv_at hl 0 rfl) ?_
            refine lv_iconst (v := 1) hx hb dJ6_numberOfTrailingZeros_0f7a4_76 (by decide) ?_
            refine lv_iushr hx hb dJ6_numberOfTrailingZeros_0f7a4_77 rfl ?_
            refine lv_topi (fun v63 ev63 => ?_)
            refine lv_iadd hx hb dJ6_numberOfTrailingZeros_0f7a4_78 ?_
            refine lv_topi (fun v64 ev64 => ?_)
            exact W.iret (v := v64) hx hb hr (fun t ht hW => ⟨v64, rfl, by subst ev52; subst ev53; subst ev54; subst ev62; subst ev63; subst ev64; refine Eq.symm ?_; refine (if_pos c55).trans ?_; refine (if_pos c56).trans ?_; refine (if_pos c57).trans ?_; refine (if_pos c58).trans ?_; refine (if_neg c59).trans ?_; rfl, ht⟩) (fun _ h => by cases h) dJ6_numberOfTrailingZeros_0f7a4_79
        · refine lv_iinc (v := 5) (lv' := [(1, .int 5), (0, .int v54)]) hx hb dJ6_numberOfTrailingZeros_0f7a4_55 hl (k := 0) rfl (by decide) (by decide) rfl (fun ls hl => ?_)
          refine lv_iload_n hx hb dJ6_numberOfTrailingZeros_0f7a4_58 rfl (lv_at hl 1 rfl) ?_
          refine lv_iconst (v := 4) hx hb dJ6_numberOfTrailingZeros_0f7a4_59 (by decide) ?_
          refine lv_iushr hx hb dJ6_numberOfTrailingZeros_0f7a4_60 rfl ?_
          refine lv_topi (fun v65 ev65 => ?_)
          refine lv_istore_n (lv' := [(0, .int v65), (1, .int 5)]) hx hb dJ6_numberOfTrailingZeros_0f7a4_61 rfl hl (by decide) rfl (fun ls hl => ?_)
          refine lv_iload_n hx hb dJ6_numberOfTrailingZeros_0f7a4_62 rfl (lv_at hl 0 rfl) ?_
          refine lv_iconst (v := 4) hx hb dJ6_numberOfTrailingZeros_0f7a4_63 (by decide) ?_
          refine lv_icmp_le (tgt := 74) hx hb dJ6_numberOfTrailingZeros_0f7a4_64 (by decide) (fun c66 => ?_) (fun c66 => ?_)
          · refine lv_iload_n hx hb dJ6_numberOfTrailingZeros_0f7a4_74 rfl (lv_at hl 1 rfl) ?_
            refine lv_iload_n hx hb dJ6_numberOfTrailingZeros_0f7a4_75 rfl (lv_at hl 0 rfl) ?_
            refine lv_iconst (v := 1) hx hb dJ6_numberOfTrailingZeros_0f7a4_76 (by decide) ?_
            refine lv_iushr hx hb dJ6_numberOfTrailingZeros_0f7a4_77 rfl ?_
            refine lv_topi (fun v67 ev67 => ?_)
            refine lv_iadd hx hb dJ6_numberOfTrailingZeros_0f7a4_78 ?_
            refine lv_topi (fun v68 ev68 => ?_)
            exact W.iret (v := v68) hx hb hr (fun t ht hW => ⟨v68, rfl, by subst ev52; subst ev53; subst ev54; subst ev65; subst ev67; subst ev68; refine Eq.symm ?_; refine (if_pos c55).trans ?_; refine (if_pos c56).trans ?_; refine (if_pos c57).trans ?_; refine (if_neg c58).trans ?_; refine (if_pos c66).trans ?_; rfl, ht⟩) (fun _ h => by cases h) dJ6_numberOfTrailingZeros_0f7a4_79
          · refine lv_iinc (v := 7) (lv' := [(1, .int 7), (0, .int v65)]) hx hb dJ6_numberOfTrailingZeros_0f7a4_67 hl (k := 1) rfl (by decide) (by decide) rfl (fun ls hl => ?_)
            refine lv_iload_n hx hb dJ6_numberOfTrailingZeros_0f7a4_70 rfl (lv_at hl 1 rfl) ?_
            refine lv_iconst (v := 2) hx hb dJ6_numberOfTrailingZeros_0f7a4_71 (by decide) ?_
            refine lv_iushr hx hb dJ6_numberOfTrailingZeros_0f7a4_72 rfl ?_
            refine lv_topi (fun v69 ev69 => ?_)
            refine lv_istore_n (lv' := [(0, .int v69), (1, .int 7)]) hx hb dJ6_numberOfTrailingZeros_0f7a4_73 rfl hl (by decide) rfl (fun ls hl => ?_)
            refine lv_iload_n hx hb dJ6_numberOfTrailingZeros_0f7a4_74 rfl (lv_at hl 1 rfl) ?_
            refine lv_iload_n hx hb dJ6_numberOfTrailingZeros_0f7a4_75 rfl (lv_at hl 0 rfl) ?_
            refine lv_iconst (v := 1) hx hb dJ6_numberOfTrailingZeros_0f7a4_76 (by decide) ?_
            refine lv_iushr hx hb dJ6_numberOfTrailingZeros_0f7a4_77 rfl ?_
            refine lv_topi (fun v70 ev70 => ?_)
            refine lv_iadd hx hb dJ6_numberOfTrailingZeros_0f7a4_78 ?_
            refine lv_topi (fun v71 ev71 => ?_)
            exact W.iret (v := v71) hx hb hr (fun t ht hW => ⟨v71, rfl, by subst ev52; subst ev53; subst ev54; subst ev65; subst ev69; subst ev70; subst ev71; refine Eq.symm ?_; refine (if_pos c55).trans ?_; refine (if_pos c56).trans ?_; refine (if_pos c57).trans ?_; refine (if_neg c58).trans ?_; refine (if_neg c66).trans ?_; rfl, ht⟩) (fun _ h => by cases h) dJ6_numberOfTrailingZeros_0f7a4_79
      · refine lv_iinc (v := 9) (lv' := [(1, .int 9), (0, .int v54)]) hx hb dJ6_numberOfTrailingZeros_0f7a4_41 hl (k := 0) rfl (by decide) (by decide) rfl (fun ls hl => ?_)
        refine lv_iload_n hx hb dJ6_numberOfTrailingZeros_0f7a4_44 rfl (lv_at hl 1 rfl) ?_
        refine lv_bipush (v := 8) hx hb dJ6_numberOfTrailingZeros_0f7a4_45 (by decide) ?_
        refine lv_iushr hx hb dJ6_numberOfTrailingZeros_0f7a4_47 rfl ?_
        refine lv_topi (fun v72 ev72 => ?_)
        refine lv_istore_n (lv' := [(0, .int v72), (1, .int 9)]) hx hb dJ6_numberOfTrailingZeros_0f7a4_48 rfl hl (by decide) rfl (fun ls hl => ?_)
        refine lv_iload_n hx hb dJ6_numberOfTrailingZeros_0f7a4_49 rfl (lv_at hl 0 rfl) ?_
        refine lv_bipush (v := 16) hx hb dJ6_numberOfTrailingZeros_0f7a4_50 (by decide) ?_
        refine lv_icmp_le (tgt := 62) hx hb dJ6_numberOfTrailingZeros_0f7a4_52 (by decide) (fun c73 => ?_) (fun c73 => ?_)
        · refine lv_iload_n hx hb dJ6_numberOfTrailingZeros_0f7a4_62 rfl (lv_at hl 0 rfl) ?_
          refine lv_iconst (v := 4) hx hb dJ6_numberOfTrailingZeros_0f7a4_63 (by decide) ?_
          refine lv_icmp_le (tgt := 74) hx hb dJ6_numberOfTrailingZeros_0f7a4_64 (by decide) (fun c74 => ?_) (fun c74 => ?_)
          · refine lv_iload_n hx hb dJ6_numberOfTrailingZeros_0f7a4_74 rfl (lv_at hl 1 rfl) ?_
            refine lv_iload_n hx hb dJ6_numberOfTrailingZeros_0f7a4_75 rfl (lv_at hl 0 rfl) ?_
            refine lv_iconst (v := 1) hx hb dJ6_numberOfTrailingZeros_0f7a4_76 (by decide) ?_
            refine lv_iushr hx hb dJ6_numberOfTrailingZeros_0f7a4_77 rfl ?_
            refine lv_topi (fun v75 ev75 => ?_)
            refine lv_iadd hx hb dJ6_numberOfTrailingZeros_0f7a4_78 ?_
            refine lv_topi (fun v76 ev76 => ?_)
            exact W.iret (v := v76) hx hb hr (fun t ht hW => ⟨v76, rfl, by subst ev52; subst ev53; subst ev54; subst ev72; subst ev75; subst ev76; refine Eq.symm ?_; refine (if_pos c55).trans ?_; refine (if_pos c56).trans ?_; refine (if_neg c57).trans ?_; refine (if_pos c73).trans ?_; refine (if_pos c74).trans ?_; rfl, ht⟩) (fun _ h => by cases h) dJ6_numberOfTrailingZeros_0f7a4_79
          · refine lv_iinc (v := 11) (lv' := [(1, .int 11), (0, .int v72)]) hx hb dJ6_numberOfTrailingZeros_0f7a4_67 hl (k := 1) rfl (by decide) (by decide) rfl (fun ls hl => ?_)
            refine lv_iload_n hx hb dJ6_numberOfTrailingZeros_0f7a4_70 rfl (lv_at hl 1 rfl) ?_
            refine lv_iconst (v := 2) hx hb dJ6_numberOfTrailingZeros_0f7a4_71 (by decide) ?_
            refine lv_iushr hx hb dJ6_numberOfTrailingZeros_0f7a4_72 rfl ?_
            refine lv_topi (fun v77 ev77 => ?_)
            refine lv_istore_n (lv' := [(0, .int v77), (1, .int 11)]) hx hb dJ6_numberOfTrailingZeros_0f7a4_73 rfl hl (by decide) rfl (fun ls hl => ?_)
            refine lv_iload_n hx hb dJ6_numberOfTrailingZeros_0f7a4_74 rfl (lv_at hl 1 rfl) ?_
            refine lv_iload_n hx hb dJ6_numberOfTrailingZeros_0f7a4_75 rfl (lv_at hl 0 rfl) ?_
            refine lv_iconst (v := 1) hx hb dJ6_numberOfTrailingZeros_0f7a4_76 (by decide) ?_
            refine lv_iushr hx hb dJ6_numberOfTrailingZeros_0f7a4_77 rfl ?_
            refine lv_topi (fun v78 ev78 => ?_)
            refine lv_iadd hx hb dJ6_numberOfTrailingZeros_0f7a4_78 ?_
            refine lv_topi (fun v79 ev79 => ?_)
            exact W.iret (v := v79) hx hb hr (fun t ht hW => ⟨v79, rfl, by subst ev52; subst ev53; subst ev54; subst ev72; subst ev77; subst ev78; subst ev79; refine Eq.symm ?_; refine (if_pos c55).trans ?_; refine (if_pos c56).trans ?_; refine (if_neg c57).trans ?_; refine (if_pos c73).trans ?_; refine (if_neg c74).trans ?_; rfl, ht⟩) (fun _ h => by cases h) dJ6_numberOfTrailingZeros_0f7a4_79
        · refine lv_iinc (v := 13) (lv' := [(1, .int 13), (0, .int v72)]) hx hb dJ6_numberOfTrailingZeros_0f7a4_55 hl (k := 1) rfl (by decide) (by decide) rfl (fun ls hl => ?_)
          refine lv_iload_n hx hb dJ6_numberOfTrailingZeros_0f7a4_58 rfl (lv_at hl 1 rfl) ?_
          refine lv_iconst (v := 4) hx hb dJ6_numberOfTrailingZeros_0f7a4_59 (by decide) ?_
          refine lv_iushr hx hb dJ6_numberOfTrailingZeros_0f7a4_60 rfl ?_
          refine lv_topi (fun v80 ev80 => ?_)
          refine lv_istore_n (lv' := [(0, .int v80), (1, .int 13)]) hx hb dJ6_numberOfTrailingZeros_0f7a4_61 rfl hl (by decide) rfl (fun ls hl => ?_)
          refine lv_iload_n hx hb dJ6_numberOfTrailingZeros_0f7a4_62 rfl (lv_at hl 0 rfl) ?_
          refine lv_iconst (v := 4) hx hb dJ6_numberOfTrailingZeros_0f7a4_63 (by decide) ?_
          refine lv_icmp_le (tgt := 74) hx hb dJ6_numberOfTrailingZeros_0f7a4_64 (by decide) (fun c81 => ?_) (fun c81 => ?_)
          · refine lv_iload_n hx hb dJ6_numberOfTrailingZeros_0f7a4_74 rfl (lv_at hl 1 rfl) ?_
            refine lv_iload_n hx hb dJ6_numberOfTrailingZeros_0f7a4_75 rfl (lv_at hl 0 rfl) ?_
            refine lv_iconst (v := 1) hx hb dJ6_numberOfTrailingZeros_0f7a4_76 (by decide) ?_
            refine lv_iushr hx hb dJ6_numberOfTrailingZeros_0f7a4_77 rfl ?_
            refine lv_topi (fun v82 ev82 => ?_)
            refine lv_iadd hx hb dJ6_numberOfTrailingZeros_0f7a4_78 ?_
            refine lv_topi (fun v83 ev83 => ?_)
            exact W.iret (v := v83) hx hb hr (fun t ht hW => ⟨v83, rfl, by subst ev52; subst ev53; subst ev54; subst ev72; subst ev80; subst ev82; subst ev83; refine Eq.symm ?_; refine (if_pos c55).trans ?_; refine (if_pos c56).trans ?_; refine (if_neg c57).trans ?_; refine (if_neg c73).trans ?_; refine (if_pos c81).trans ?_; rfl, ht⟩) (fun _ h => by cases h) dJ6_numberOfTrailingZeros_0f7a4_79
          · refine lv_iinc (v := 15) (lv' := [(1, .int 15), (0, .int v80)]) hx hb dJ6_numberOfTrailingZeros_0f7a4_67 hl (k := 1) rfl (by decide) (by decide) rfl (fun ls hl => ?_)
            refine lv_iload_n hx hb dJ6_numberOfTrailingZeros_0f7a4_70 rfl (lv_at hl 1 rfl) ?_
            refine lv_iconst (v := 2) hx hb dJ6_numberOfTrailingZeros_0f7a4_71 (by decide) ?_
            refine lv_iushr hx hb dJ6_numberOfTrailingZeros_0f7a4_72 rfl ?_
            refine lv_topi (fun v84 ev84 => ?_)
            refine lv_istore_n (lv' := [(0, .int v84), (1, .int 15)]) hx hb dJ6_numberOfTrailingZeros_0f7a4_73 rfl hl (by decide) rfl (fun ls hl => ?_)
            refine lv_iload_n hx hb dJ6_numberOfTrailingZeros_0f7a4_74 rfl (lv_at hl 1 rfl) ?_
            refine lv_iload_n hx hb dJ6_numberOfTrailingZeros_0f7a4_75 rfl (lv_at hl 0 rfl) ?_
            refine lv_iconst (v := 1) hx hb dJ6_numberOfTrailingZeros_0f7a4_76 (by decide) ?_
            refine lv_iushr hx hb dJ6_numberOfTrailingZeros_0f7a4_77 rfl ?_
            refine lv_topi (fun v85 ev85 => ?_)
            refine lv_iadd hx hb dJ6_numberOfTrailingZeros_0f7a4_78 ?_
            refine lv_topi (fun v86 ev86 => ?_)
            exact W.iret (v := v86) hx hb hr (fun t ht hW => ⟨v86, rfl, by subst ev52; subst ev53; subst ev54; subst ev72; subst ev80; subst ev84; subst ev85; subst ev86; refine Eq.symm ?_; refine (if_pos c55).trans ?_; refine (if_pos c56).trans ?_; refine (if_neg c57).trans ?_; refine (if_neg c73).trans ?_; refine (if_neg c81).trans ?_; rfl, ht⟩) (fun _ h => by cases h) dJ6_numberOfTrailingZeros_0f7a4_79
    · refine lv_iinc (v := 17) (lv' := [(1, .int 17), (0, .int v54)]) hx hb dJ6_numberOfTrailingZeros_0f7a4_26 hl (k := 0) rfl (by decide) (by decide) rfl (fun ls hl => ?_)
      refine lv_iload_n hx hb dJ6_numberOfTrailingZeros_0f7a4_29 rfl (lv_at hl 1 rfl) ?_
      refine lv_bipush (v := 16) hx hb dJ6_numberOfTrailingZeros_0f7a4_30 (by decide) ?_
      refine lv_iushr hx hb dJ6_numberOfTrailingZeros_0f7a4_32 rfl ?_
      refine lv_topi (fun v87 ev87 => ?_)
      refine lv_istore_n (lv' := [(0, .int v87), (1, .int 17)]) hx hb dJ6_numberOfTrailingZeros_0f7a4_33 rfl hl (by decide) rfl (fun ls hl => ?_)
      refine lv_iload_n hx hb dJ6_numberOfTrailingZeros_0f7a4_34 rfl (lv_at hl 0 rfl) ?_
      refine lv_sipush (v := 256) hx hb dJ6_numberOfTrailingZeros_0f7a4_35 (by decide) ?_
      refine lv_icmp_le (tgt := 49) hx hb dJ6_numberOfTrailingZeros_0f7a4_38 (by decide) (fun c88 => ?_) (fun c88 => ?_)
      · refine lv_iload_n hx hb dJ6_numberOfTrailingZeros_0f7a4_49 rfl (lv_at hl 0 rfl) ?_
        refine lv_bipush (v := 16) hx hb dJ6_numberOfTrailingZeros_0f7a4_50 (by decide) ?_
        refine lv_icmp_le (tgt := 62) hx hb dJ6_numberOfTrailingZeros_0f7a4_52 (by decide) (fun c89 => ?_) (fun c89 => ?_)
        · refine lv_iload_n hx hb dJ6_numberOfTrailingZeros_0f7a4_62 rfl (lv_at hl 0 rfl) ?_
          refine lv_iconst (v := 4) hx hb dJ6_numberOfTrailingZeros_0f7a4_63 (by decide) ?_
          refine lv_icmp_le (tgt := 74) hx hb dJ6_numberOfTrailingZeros_0f7a4_64 (by decide) (fun c90 => ?_) (fun c90 => ?_)
          · refine lv_iload_n hx hb dJ6_numberOfTrailingZeros_0f7a4_74 rfl (lv_at hl 1 rfl) ?_
            refine lv_iload_n hx hb dJ6_numberOfTrailingZeros_0f7a4_75 rfl (lv_at hl 0 rfl) ?_
            refine lv_iconst (v := 1) hx hb dJ6_numberOfTrailingZeros_0f7a4_76 (by decide) ?_
            refine lv_iushr hx hb dJ6_numberOfTrailingZeros_0f7a4_77 rfl ?_
            refine lv_topi (fun v91 ev91 => ?_)
            refine lv_iadd hx hb dJ6_numberOfTrailingZeros_0f7a4_78 ?_
            refine lv_topi (fun v92 ev92 => ?_)
            exact W.iret (v := v92) hx hb hr (fun t ht hW => ⟨v92, rfl, by subst ev52; subst ev53; subst ev54; subst ev87; subst ev91; subst ev92; refine Eq.symm ?_; refine (if_pos c55).trans ?_; refine (if_neg c56).trans ?_; refine (if_pos c88).trans ?_; refine (if_pos c89).trans ?_; refine (if_pos c90).trans ?_; rfl, ht⟩) (fun _ h => by cases h) dJ6_numberOfTrailingZeros_0f7a4_79
          · refine lv_iinc (v := 19) (lv' := [(1, .int 19), (0, .int v87)]) hx hb dJ6_numberOfTrailingZeros_0f7a4_67 hl (k := 1) rfl (by decide) (by decide) rfl (fun ls hl => ?_)
            refine lv_iload_n hx hb dJ6_numberOfTrailingZeros_0f7a4_70 rfl (lv_at hl 1 rfl) ?_
            refine lv_iconst (v := 2) hx hb dJ6_numberOfTrailingZeros_0f7a4_71 (by decide) ?_
            refine lv_iushr hx hb dJ6_numberOfTrailingZeros_0f7a4_72 rfl ?_
            refine lv_topi (fun v93 ev93 => ?_)
            refine lv_istore_n (lv' := [(0, .int v93), (1, .int 19)]) hx hb dJ6_numberOfTrailingZeros_0f7a4_73 rfl hl (by decide) rfl (fun ls hl => ?_)
            refine lv_iload_n hx hb dJ6_numberOfTrailingZeros_0f7a4_74 rfl (lv_at hl 1 rfl) ?_
            refine lv_iload_n hx hb dJ6_numberOfTrailingZeros_0f7a4_75 rfl (lv_at hl 0 rfl) ?_
            refine lv_iconst (v := 1) hx hb dJ6_numberOfTrailingZeros_0f7a4_76 (by decide) ?_
            refine lv_iushr hx hb dJ6_numberOfTrailingZeros_0f7a4_77 rfl ?_
            refine lv_topi (fun v94 ev94 => ?_)
            refine lv_iadd hx hb dJ6_numberOfTrailingZeros_0f7a4_78 ?_
            refine lv_topi (fun v95 ev95 => ?_)
            exact W.iret (v := v95) hx hb hr (fun t ht hW => ⟨v95, rfl, by subst ev52; subst ev53; subst ev54; subst ev87; subst ev93; subst ev94; subst ev95; refine Eq.symm ?_; refine (if_pos c55).trans ?_; refine (if_neg c56).trans ?_; refine (if_pos c88).trans ?_; refine (if_pos c89).trans ?_; refine (if_neg c90).trans ?_; rfl, ht⟩) (fun _ h => by cases h) dJ6_numberOfTrailingZeros_0f7a4_79
        · refine lv_iinc (v := 21) (lv' := [(1, .int 21), (0, .int v87)]) hx hb dJ6_numberOfTrailingZeros_0f7a4_55 hl (k := 1) rfl (by decide) (by decide) rfl (fun ls hl => ?_)
          refine lv_iload_n hx hb dJ6_numberOfTrailingZeros_0f7a4_58 rfl (lv_at hl 1 rfl) ?_
          refine lv_iconst (v := 4) hx hb dJ6_numberOfTrailingZeros_0f7a4_59 (by decide) ?_
          refine lv_iushr hx hb dJ6_numberOfTrailingZeros_0f7a4_60 rfl ?_
          refine lv_topi (fun v96 ev96 => ?_)
          refine lv_istore_n (lv' := [(0, .int v96), (1, .int 21)]) hx hb dJ6_numberOfTrailingZeros_0f7a4_61 rfl hl (by decide) rfl (fun ls hl => ?_)
          refine lv_iload_n hx hb dJ6_numberOfTrailingZeros_0f7a4_62 rfl (lv_at hl 0 rfl) ?_
          refine lv_iconst (v := 4) hx hb dJ6_numberOfTrailingZeros_0f7a4_63 (by decide) ?_
          refine lv_icmp_le (tgt := 74) hx hb dJ6_numberOfTrailingZeros_0f7a4_64 (by decide) (fun c97 => ?_) (fun c97 => ?_)
          · refine lv_iload_n hx hb dJ6_numberOfTrailingZeros_0f7a4_74 rfl (lv_at hl 1 rfl) ?_
            refine lv_iload_n hx hb dJ6_numberOfTrailingZeros_0f7a4_75 rfl (lv_at hl 0 rfl) ?_
            refine lv_iconst (v := 1) hx hb dJ6_numberOfTrailingZeros_0f7a4_76 (by decide) ?_
            refine lv_iushr hx hb dJ6_numberOfTrailingZeros_0f7a4_77 rfl ?_
            refine lv_topi (fun v98 ev98 => ?_)
            refine lv_iadd hx hb dJ6_numberOfTrailingZeros_0f7a4_78 ?_
            refine lv_topi (fun v99 ev99 => ?_)
            exact W.iret (v := v99) hx hb hr (fun t ht hW => ⟨v99, rfl, by subst ev52; subst ev53; subst ev54; subst ev87; subst ev96; subst ev98; subst ev99; refine Eq.symm ?_; refine (if_pos c55).trans ?_; refine (if_neg c56).trans ?_; refine (if_pos c88).trans ?_; refine (if_neg c89).trans ?_; refine (if_pos c97).trans ?_; rfl, ht⟩) (fun _ h => by cases h) dJ6_numberOfTrailingZeros_0f7a4_79
          · refine lv_iinc (v := 23) (lv' := [(1, .int 23), (0, .int v96)]) hx hb dJ6_numberOfTrailingZeros_0f7a4_67 hl (k := 1) rfl (by decide) (by decide) rfl (fun ls hl => ?_)
            refine lv_iload_n hx hb dJ6_numberOfTrailingZeros_0f7a4_70 rfl (lv_at hl 1 rfl) ?_
            refine lv_iconst (v := 2) hx hb dJ6_numberOfTrailingZeros_0f7a4_71 (by decide) ?_
            refine lv_iushr hx hb dJ6_numberOfTrailingZeros_0f7a4_72 rfl ?_
            refine lv_topi (fun v100 ev100 => ?_)
            refine lv_istore_n (lv' := [(0, .int v100), (1, .int 23)]) hx hb dJ6_numberOfTrailingZeros_0f7a4_73 rfl hl (by decide) rfl (fun ls hl => ?_)
            refine lv_iload_n hx hb dJ6_numberOfTrailingZeros_0f7a4_74 rfl (lv_at hl 1 rfl) ?_
            refine lv_iload_n hx hb dJ6_numberOfTrailingZeros_0f7a4_75 rfl (lv_at hl 0 rfl) ?_
            refine lv_iconst (v := 1) hx hb dJ6_numberOfTrailingZeros_0f7a4_76 (by decide) ?_
            refine lv_iushr hx hb dJ6_numberOfTrailingZeros_0f7a4_77 rfl ?_
            refine lv_topi (fun v101 ev101 => ?_)
            refine lv_iadd hx hb dJ6_numberOfTrailingZeros_0f7a4_78 ?_
            refine lv_topi (fun v102 ev102 => ?_)
            exact W.iret (v := v102) hx hb hr (fun t ht hW => ⟨v102, rfl, by subst ev52; subst ev53; subst ev54; subst ev87; subst ev96; subst ev100; subst ev101; subst ev102; refine Eq.symm ?_; refine (if_pos c55).trans ?_; refine (if_neg c56).trans ?_; refine (if_pos c88).trans ?_; refine (if_neg c89).trans ?_; refine (if_neg c97).trans ?_; rfl, ht⟩) (fun _ h => by cases h) dJ6_numberOfTrailingZeros_0f7a4_79
      · refine lv_iinc (v := 25) (lv' := [(1, .int 25), (0, .int v87)]) hx hb dJ6_numberOfTrailingZeros_0f7a4_41 hl (k := 1) rfl (by decide) (by decide) rfl (fun ls hl => ?_)
        refine lv_iload_n hx hb dJ6_numberOfTrailingZeros_0f7a4_44 rfl (lv_at hl 1 rfl) ?_
        refine lv_bipush (v := 8) hx hb dJ6_numberOfTrailingZeros_0f7a4_45 (by decide) ?_
        refine lv_iushr hx hb dJ6_numberOfTrailingZeros_0f7a4_47 rfl ?_
        refine lv_topi (fun v103 ev103 => ?_)
        refine lv_istore_n (lv' := [(0, .int v103), (1, .int 25)]) hx hb dJ6_numberOfTrailingZeros_0f7a4_48 rfl hl (by decide) rfl (fun ls hl => ?_)
        refine lv_iload_n hx hb dJ6_numberOfTrailingZeros_0f7a4_49 rfl (lv_at hl 0 rfl) ?_
        refine lv_bipush (v := 16) hx hb dJ6_numberOfTrailingZeros_0f7a4_50 (by decide) ?_
        refine lv_icmp_le (tgt := 62) hx hb dJ6_numberOfTrailingZeros_0f7a4_52 (by decide) (fun c104 => ?_) (fun c104 => ?_)
        · refine lv_iload_n hx hb dJ6_numberOfTrailingZeros_0f7a4_62 rfl (lv_at hl 0 rfl) ?_
          refine lv_iconst (v := 4) hx hb dJ6_numberOfTrailingZeros_0f7a4_63 (by decide) ?_
          refine lv_icmp_le (tgt := 74) hx hb dJ6_numberOfTrailingZeros_0f7a4_64 (by decide) (fun c105 => ?_) (fun c105 => ?_)
          · refine lv_iload_n hx hb dJ6_numberOfTrailingZeros_0f7a4_74 rfl (lv_at hl 1 rfl) ?_
            refine lv_iload_n hx hb dJ6_numberOfTrailingZeros_0f7a4_75 rfl (lv_at hl 0 rfl) ?_
            refine lv_iconst (v := 1) hx hb dJ6_numberOfTrailingZeros_0f7a4_76 (by decide) ?_
            refine lv_iushr hx hb dJ6_numberOfTrailingZeros_0f7a4_77 rfl ?_
            refine lv_topi (fun v106 ev106 => ?_)
            refine lv_iadd hx hb dJ6_numberOfTrailingZeros_0f7a4_78 ?_
            refine lv_topi (fun v107 ev107 => ?_)
            exact W.iret (v := v107) hx hb hr (fun t ht hW => ⟨v107, rfl, by subst ev52; subst ev53; subst ev54; subst ev87; subst ev103; subst ev106; subst ev107; refine Eq.symm ?_; refine (if_pos c55).trans ?_; refine (if_neg c56).trans ?_; refine (if_neg c88).trans ?_; refine (if_pos c104).trans ?_; refine (if_pos c105).trans ?_; rfl, ht⟩) (fun _ h => by cases h) dJ6_numberOfTrailingZeros_0f7a4_79
          · refine lv_iinc (v := 27) (lv' := [(1, .int 27), (0, .int v103)]) hx hb dJ6_numberOfTrailingZeros_0f7a4_67 hl (k := 1) rfl (by decide) (by decide) rfl (fun ls hl => ?_)
            refine lv_iload_n hx hb dJ6_numberOfTrailingZeros_0f7a4_70 rfl (lv_at hl 1 rfl) ?_
            refine lv_iconst (v := 2) hx hb dJ6_numberOfTrailingZeros_0f7a4_71 (by decide) ?_
            refine lv_iushr hx hb dJ6_numberOfTrailingZeros_0f7a4_72 rfl ?_
            refine lv_topi (fun v108 ev108 => ?_)
            refine lv_istore_n (lv' := [(0, .int v108), (1, .int 27)]) hx hb dJ6_numberOfTrailingZeros_0f7a4_73 rfl hl (by decide) rfl (fun ls hl => ?_)
            refine lv_iload_n hx hb dJ6_numberOfTrailingZeros_0f7a4_74 rfl (lv_at hl 1 rfl) ?_
            refine lv_iload_n hx hb dJ6_numberOfTrailingZeros_0f7a4_75 rfl (lv_at hl 0 rfl) ?_
            refine lv_iconst (v := 1) hx hb dJ6_numberOfTrailingZeros_0f7a4_76 (by decide) ?_
            refine lv_iushr hx hb dJ6_numberOfTrailingZeros_0f7a4_77 rfl ?_
            refine lv_topi (fun v109 ev109 => ?_)
            refine lv_iadd hx hb dJ6_numberOfTrailingZeros_0f7a4_78 ?_
            refine lv_topi (fun v110 ev110 => ?_)
            exact W.iret (v := v110) hx hb hr (fun t ht hW => ⟨v110, rfl, by subst ev52; subst ev53; subst ev54; subst ev87; subst ev103; subst ev108; subst ev109; subst ev110; refine Eq.symm ?_; refine (if_pos c55).trans ?_; refine (if_neg c56).trans ?_; refine (if_neg c88).trans ?_; refine (if_pos c104).trans ?_; refine (if_neg c105).trans ?_; rfl, ht⟩) (fun _ h => by cases h) dJ6_numberOfTrailingZeros_0f7a4_79
        · refine lv_iinc (v := 29) (lv' := [(1, .int 29), (0, .int v103)]) hx hb dJ6_numberOfTrailingZeros_0f7a4_55 hl (k := 1) rfl (by decide) (by decide) rfl (fun ls hl => ?_)
          refine lv_iload_n hx hb dJ6_numberOfTrailingZeros_0f7a4_58 rfl (lv_at hl 1 rfl) ?_
          refine lv_iconst (v := 4) hx hb dJ6_numberOfTrailingZeros_0f7a4_59 (by decide) ?_
          refine lv_iushr hx hb dJ6_numberOfTrailingZeros_0f7a4_60 rfl ?_
          refine lv_topi (fun v111 ev111 => ?_)
          refine lv_istore_n (lv' := [(0, .int v111), (1, .int 29)]) hx hb dJ6_numberOfTrailingZeros_0f7a4_61 rfl hl (by decide) rfl (fun ls hl => ?_)
          refine lv_iload_n hx hb dJ6_numberOfTrailingZeros_0f7a4_62 rfl (lv_at hl 0 rfl) ?_
          refine lv_iconst (v := 4) hx hb dJ6_numberOfTrailingZeros_0f7a4_63 (by decide) ?_
          refine lv_icmp_le (tgt := 74) hx hb dJ6_numberOfTrailingZeros_0f7a4_64 (by decide) (fun c112 => ?_) (fun c112 => ?_)
          · refine lv_iload_n hx hb dJ6_numberOfTrailingZeros_0f7a4_74 rfl (lv_at hl 1 rfl) ?_
            refine lv_iload_n hx hb dJ6_numberOfTrailingZeros_0f7a4_75 rfl (lv_at hl 0 rfl) ?_
            refine lv_iconst (v := 1) hx hb dJ6_numberOfTrailingZeros_0f7a4_76 (by decide) ?_
            refine lv_iushr hx hb dJ6_numberOfTrailingZeros_0f7a4_77 rfl ?_
            refine lv_topi (fun v113 ev113 => ?_)
            refine lv_iadd hx hb dJ6_numberOfTrailingZeros_0f7a4_78 ?_
            refine lv_topi (fun v114 ev114 => ?_)
            exact W.iret (v := v114) hx hb hr (fun t ht hW => ⟨v114, rfl, by subst ev52; subst ev53; subst ev54; subst ev87; subst ev103; subst ev111; subst ev113; subst ev114; refine Eq.symm ?_; refine (if_pos c55).trans ?_; refine (if_neg c56).trans ?_; refine (if_neg c88).trans ?_; refine (if_neg c104).trans ?_; refine (if_pos c112).trans ?_; rfl, ht⟩) (fun _ h => by cases h) dJ6_numberOfTrailingZeros_0f7a4_79
          · refine lv_iinc (v := 31) (lv' := [(1, .int 31), (0, .int v111)]) hx hb dJ6_numberOfTrailingZeros_0f7a4_67 hl (k := 1) rfl (by decide) (by decide) rfl (fun ls hl => ?_)
            refine lv_iload_n hx hb dJ6_numberOfTrailingZeros_0f7a4_70 rfl (lv_at hl 1 rfl) ?_
            refine lv_iconst (v := 2) hx hb dJ6_numberOfTrailingZeros_0f7a4_71 (by decide) ?_
            refine lv_iushr hx hb dJ6_numberOfTrailingZeros_0f7a4_72 rfl ?_
            refine lv_topi (fun v115 ev115 => ?_)
            refine lv_istore_n (lv' := [(0, .int v115), (1, .int 31)]) hx hb dJ6_numberOfTrailingZeros_0f7a4_73 rfl hl (by decide) rfl (fun ls hl => ?_)
            refine lv_iload_n hx hb dJ6_numberOfTrailingZeros_0f7a4_74 rfl (lv_at hl 1 rfl) ?_
            refine lv_iload_n hx hb dJ6_numberOfTrailingZeros_0f7a4_75 rfl (lv_at hl 0 rfl) ?_
            refine lv_iconst (v := 1) hx hb dJ6_numberOfTrailingZeros_0f7a4_76 (by decide) ?_
            refine lv_iushr hx hb dJ6_numberOfTrailingZeros_0f7a4_77 rfl ?_
            refine lv_topi (fun v116 ev116 => ?_)
            refine lv_iadd hx hb dJ6_numberOfTrailingZeros_0f7a4_78 ?_
            refine lv_topi (fun v117 ev117 => ?_)
            exact W.iret (v := v117) hx hb hr (fun t ht hW => ⟨v117, rfl, by subst ev52; subst ev53; subst ev54; subst ev87; subst ev103; subst ev111; subst ev115; subst ev116; subst ev117; refine Eq.symm ?_; refine (if_pos c55).trans ?_; refine (if_neg c56).trans ?_; refine (if_neg c88).trans ?_; refine (if_neg c104).trans ?_; refine (if_neg c112).trans ?_; rfl, ht⟩) (fun _ h => by cases h) dJ6_numberOfTrailingZeros_0f7a4_79
  · refine lv_iload_n hx hb dJ6_numberOfTrailingZeros_0f7a4_12 rfl (lv_at hl 0 rfl) ?_
    refine lv_bipush (v := 32) hx hb dJ6_numberOfTrailingZeros_0f7a4_13 (by decide) ?_
    refine lv_iand hx hb dJ6_numberOfTrailingZeros_0f7a4_15 ?_
    refine lv_topi (fun v118 ev118 => ?_)
    exact W.iret (v := v118) hx hb hr (fun t ht hW => ⟨v118, rfl, by subst ev52; subst ev53; subst ev54; subst ev118; refine Eq.symm ?_; refine (if_neg c55).trans ?_; rfl, ht⟩) (fun _ h => by cases h) dJ6_numberOfTrailingZeros_0f7a4_16
end
section
/-! numbers of any size: sums, remainders -/
theorem xb_of {n : Int} (h1 : -2147483648 ≤ n) (h2 : n < 2147483648) : n.bmod (2 ^ 32) = n := Int.bmod_eq_of_le (by omega) (by omega)
theorem xr_lo (x : Int32) : -2147483648 ≤ x.toInt := Int32.le_toInt x
theorem xr_hi (x : Int32) : x.toInt < 2147483648 := Int32.toInt_lt x
theorem xinc {x y : Int32} (h : x < y) : (x + 1).toInt = x.toInt + 1 := by
  rw [xk_lt] at h
  have := xr_lo x
  have := xr_hi y
  rw [Int32.toInt_add, xk_1, xb_of (by omega) (by omega)]
theorem xrem60 (x : Int32) : (x - x / 60 * 60).toInt = x.toInt.tmod 60 := by
  have h1 := Int.mul_tdiv_add_tmod x.toInt 60
  have h2 := Int.tmod_lt_of_pos x.toInt (b := 60) (by decide)
  have h3 := Int.lt_tmod_of_pos x.toInt (b := 60) (by decide)
  have h4 := xr_lo x
  have h5 := xr_hi x
  have e60 : (60 : Int32).toInt = 60 := by decide
  have hs : 0 ≤ x.toInt → 0 ≤ x.toInt.tmod 60 := fun h => Int.tmod_nonneg 60 h
  have hn : x.toInt ≤ 0 → x.toInt.tmod 60 ≤ 0 := fun h => by
    have := Int.tmod_nonneg (a := -x.toInt) 60 (by omega)
    rw [Int.neg_tmod] at this
    omega
  rw [Int32.toInt_sub, Int32.toInt_mul, Int32.toInt_div_of_ne_right _ _ (by decide), e60]
  generalize x.toInt.tdiv 60 = q at h1 ⊢
  generalize x.toInt.tmod 60 = r at h1 h2 h3 hs hn ⊢
  rw [xb_of (n := q * 60) (by omega) (by omega), xb_of (by omega) (by omega)]
  omega
/-- the sign of x ^ 60 is that of x -/
theorem xsg (x : Int32) : (0 ≤ x ^^^ 60) ↔ 0 ≤ x := by
  have e : (x ^^^ 60).toBitVec.msb = x.toBitVec.msb := by
    rw [Int32.toBitVec_xor, BitVec.msb_xor, show (60 : Int32).toBitVec.msb = false by decide, Bool.xor_false]
  rw [BitVec.msb_eq_toInt, BitVec.msb_eq_toInt, decide_eq_decide] at e
  rw [xk_le, xk_le, xk_0]
  have e1 : (x ^^^ 60).toInt < 0 ↔ x.toInt < 0 := e
  omega
/-- Math.floorMod(x, 60) -/
def sp_fm (x : Int32) : Int32 := if 0 ≤ x ^^^ 60 then x - x / 60 * 60 else if x - x / 60 * 60 = 0 then x - x / 60 * 60 else x - x / 60 * 60 + 60
theorem sp_fm_in (x : Int32) : vp_in (sp_fm x) 60 := by
  have h1 := xrem60 x
  have h2 := Int.tmod_lt_of_pos x.toInt (b := 60) (by decide)
  have h3 := Int.lt_tmod_of_pos x.toInt (b := 60) (by decide)
  have hs : 0 ≤ x.toInt → 0 ≤ x.toInt.tmod 60 := fun h => Int.tmod_nonneg 60 h
  have hn : x.toInt ≤ 0 → x.toInt.tmod 60 ≤ 0 := fun h => by
    have := Int.tmod_nonneg (a := -x.toInt) 60 (by omega)
    rw [Int.neg_tmod] at this
    omega
  unfold sp_fm
  rw [← h1] at h2 h3 hs hn
  generalize x - x / 60 * 60 = r at h1 h2 h3 hs hn ⊢
  rw [vp_in_iff]
  by_cases hx : 0 ≤ x ^^^ 60
  · rw [if_pos hx]
    have hx := (xsg x).mp hx
    rw [xk_le, xk_0] at hx
    have := hs hx
    omega
  · rw [if_neg hx]
    have hx := (not_congr (xsg x)).mp hx
    rw [xk_le, xk_0] at hx
    have := hn (by omega)
    by_cases h0 : r = 0
    · rw [if_pos h0, h0, xk_0]; omega
    · rw [if_neg h0]
      rw [xk_eq, xk_0] at h0
      rw [Int32.toInt_add, show (60 : Int32).toInt = 60 by decide, xb_of (by omega) (by omega)]
      omega
end
section
/-- what lies at an address, by its kind -/
def pF (cy : Nat → ClassId) (K N : Nat → Nat) (T : Nat → Nat → Nat) (I : Nat → Nat → Int32) (Q : Nat → Nat → Option Nat) (J : Nat → Nat → Int32) : Nat → va_E := fun a => if K a = 0 then .inr (0, [.int (I a 0), .int (I a 1), .int (I a 2), .int (I a 3), .int (I a 4), .int (I a 5), .int (I a 6), .int (I a 7)]) else if K a = 1 then .inr (1, [.int (I a 0), .int (I a 1), .ref (T a 2)]) else if K a = 2 then .inr (2, [.int (I a 0), .int (I a 1), .ref (T a 2), .int (I a 3), .int (I a 4), .int (I a 5)]) else if K a = 3 then .inr (3, [.int (I a 0), .int (I a 1), .int (I a 2), .int (I a 3), .int (I a 4), .int (I a 5)]) else if K a = 4 then .inr (4, [.ref (T a 0), .int (I a 1), .int (I a 2), .int (I a 3), .int (I a 4), .int (I a 5), .int (I a 6)]) else if K a = 5 then .inr (5, [.ref (T a 0), .ref (T a 1), .ref (T a 2), .int (I a 3), .int (I a 4), va_rf (Q a 5)]) else if K a = 6 then .inr (6, [.ref (T a 0), .int (I a 1), .int (I a 2), .int (I a 3), .int (I a 4), .int (I a 5), .int (I a 6)]) else if K a = 8 then .inl ((cy 8), 60, .inr (.inr (.inr (.inr (Q a))))) else if K a = 9 then .inl ((cy 9), 4, .inr (.inr (.inr (.inr (Q a))))) else if K a = 10 then .inl ((cy 10), 4, .inr (.inr (.inr (.inr (Q a))))) else if K a = 11 then .inl ((cy 11), 6, .inr (.inr (.inr (.inr (Q a))))) else if K a = 12 then .inl ((cy 12), 5, .inr (.inr (.inr (.inr (Q a))))) else .inl ((cy 7), (N a), .inl (J a))
/-- place f of the row at a becomes x -/
def p2 {α : Type} (I : Nat → Nat → α) (a f : Nat) (x : α) : Nat → Nat → α := va_up I a (va_up (I a) f x)
theorem p2_at {α : Type} (I : Nat → Nat → α) (a f : Nat) (x : α) : p2 I a f x a f = x := by simp [p2, va_up]
theorem p2_ne {α : Type} (I : Nat → Nat → α) {a b f g : Nat} (x : α) (h : ¬ (b = a ∧ g = f)) : p2 I a f x b g = I b g := by
  unfold p2 va_up
  by_cases hb : b = a
  · subst hb
    have hg : ¬ g = f := fun q => h ⟨rfl, q⟩
    simp [hg]
  · simp [hb]
theorem p2_na {α : Type} (I : Nat → Nat → α) {a b f : Nat} (x : α) (h : ¬ b = a) : p2 I a f x b = I b := by unfold p2; rw [va_up_ne _ _ h]
theorem p2_aa {α : Type} (I : Nat → Nat → α) (a f : Nat) (x : α) : p2 I a f x a = va_up (I a) f x := by unfold p2; rw [va_up_self]
theorem pD {A : Nat → Prop} {L : List Nat} {f g : Nat → va_E} (h : va_D A (va_pl L f)) : va_D A (va_pl L g) := by
  have key : ∀ (k : Nat) (q : Nat × va_E), (va_pl L g)[k]? = some q → ∃ e, (va_pl L f)[k]? = some (q.1, e) := by
    intro k q hk
    unfold va_pl at hk ⊢
    rw [List.getElem?_map] at hk ⊢
    cases hb : L[k]? with
    | none => rw [hb] at hk; cases hk
    | some b => rw [hb] at hk; cases hk; exact ⟨_, rfl⟩
  refine ⟨fun i j x y hi hj hxy => ?_, fun k q hk => ?_⟩
  · obtain ⟨e1, h1⟩ := key i x hi
    obtain ⟨e2, h2⟩ := key j y hj
    exact h.1 i j _ _ h1 h2 hxy
  · obtain ⟨e1, h1⟩ := key k q hk
    exact h.2 k (q.1, e1) h1
theorem pF_0 {cy : Nat → ClassId} {K N : Nat → Nat} {T : Nat → Nat → Nat} {I : Nat → Nat → Int32} {Q : Nat → Nat → Option Nat} {J : Nat → Nat → Int32} {a : Nat} (h : K a = 0) : pF cy K N T I Q J a = .inr (0, [.int (I a 0), .int (I a 1), .int (I a 2), .int (I a 3), .int (I a 4), .int (I a 5), .int (I a 6), .int (I a 7)]) := by simp [pF, h]
theorem pG_0 {cy : Nat → ClassId} {K N : Nat → Nat} {T : Nat → Nat → Nat} {I : Nat → Nat → Int32} {Q : Nat → Nat → Option Nat} {J : Nat → Nat → Int32} {L : List Nat} {a : Nat} (hL : a ∈ L) (h : K a = 0) : ∃ j : Nat, (va_pl L (pF cy K N T I Q J))[j]? = some (a, .inr (0, [.int (I a 0), .int (I a 1), .int (I a 2), .int (I a 3), .int (I a 4), .int (I a 5), .int (I a 6), .int (I a 7)])) := by
  obtain ⟨j, hj⟩ := va_pl_get (X := []) (f := pF cy K N T I Q J) hL
  exact ⟨j, hj.trans (by rw [pF_0 h])⟩
theorem pP_0_0 {cy : Nat → ClassId} {K N : Nat → Nat} {T : Nat → Nat → Nat} {I : Nat → Nat → Int32} {Q : Nat → Nat → Option Nat} {J : Nat → Nat → Int32} {A : Nat → Prop} {L : List Nat} {a j : Nat} {x : Int32} (hD : va_D A (va_pl L (pF cy K N T I Q J))) (hL : a ∈ L) (h : K a = 0) (hj : (va_pl L (pF cy K N T I Q J))[j]? = some (a, .inr (0, [.int (I a 0), .int (I a 1), .int (I a 2), .int (I a 3), .int (I a 4), .int (I a 5), .int (I a 6), .int (I a 7)]))) : (va_pl L (pF cy K N T I Q J)).set j (a, .inr (0, [.int x, .int (I a 1), .int (I a 2), .int (I a 3), .int (I a 4), .int (I a 5), .int (I a 6), .int (I a 7)])) = va_pl L (pF cy K N T (p2 I a 0 x) Q J) := by
  have hs := va_pl_set (X := []) (e := .inr (0, [.int x, .int (I a 1), .int (I a 2), .int (I a 3), .int (I a 4), .int (I a 5), .int (I a 6), .int (I a 7)])) hD hL (hj.trans (by rw [pF_0 h]))
  refine hs.trans ?_
  show [] ++ _ = _
  rw [List.nil_append]
  refine va_pl_congr (fun b => ?_)
  by_cases hb : b = a
  · subst hb
    rw [va_up_self, pF_0 h]
    simp [p2, va_up]
  · rw [va_up_ne _ _ hb]
    simp [pF, p2, va_up, hb]
theorem pP_0_1 {cy : Nat → ClassId} {K N : Nat → Nat} {T : Nat → Nat → Nat} {I : Nat → Nat → Int32} {Q : Nat → Nat → Option Nat} {J : Nat → Nat → Int32} {A : Nat → Prop} {L : List Nat} {a j : Nat} {x : Int32} (hD : va_D A (va_pl L (pF cy K N T I Q J))) (hL : a ∈ L) (h : K a = 0) (hj : (va_pl L (pF cy K N T I Q J))[j]? = some (a, .inr (0, [.int (I a 0), .int (I a 1), .int (I a 2), .int (I a 3), .int (I a 4), .int (I a 5), .int (I a 6), .int (I a 7)]))) : (va_pl L (pF cy K N T I Q J)).set j (a, .inr (0, [.int (I a 0), .int x, .int (I a 2), .int (I a 3), .int (I a 4), .int (I a 5), .int (I a 6), .int (I a 7)])) = va_pl L (pF cy K N T (p2 I a 1 x) Q J) := by
  have hs := va_pl_set (X := []) (e := .inr (0, [.int (I a 0), .int x, .int (I a 2), .int (I a 3), .int (I a 4), .int (I a 5), .int (I a 6), .int (I a 7)])) hD hL (hj.trans (by rw [pF_0 h]))
  refine hs.trans ?_
  show [] ++ _ = _
  rw [List.nil_append]
  refine va_pl_congr (fun b => ?_)
  by_cases hb : b = a
  · subst hb
    rw [va_up_self, pF_0 h]
    simp [p2, va_up]
  · rw [va_up_ne _ _ hb]
    simp [pF, p2, va_up, hb]
theorem pP_0_2 {cy : Nat → ClassId} {K N : Nat → Nat} {T : Nat → Nat → Nat} {I : Nat → Nat → Int32} {Q : Nat → Nat → Option Nat} {J : Nat → Nat → Int32} {A : Nat → Prop} {L : List Nat} {a j : Nat} {x : Int32} (hD : va_D A (va_pl L (pF cy K N T I Q J))) (hL : a ∈ L) (h : K a = 0) (hj : (va_pl L (pF cy K N T I Q J))[j]? = some (a, .inr (0, [.int (I a 0), .int (I a 1), .int (I a 2), .int (I a 3), .int (I a 4), .int (I a 5), .int (I a 6), .int (I a 7)]))) : (va_pl L (pF cy K N T I Q J)).set j (a, .inr (0, [.int (I a 0), .int (I a 1), .int x, .int (I a 3), .int (I a 4), .int (I a 5), .int (I a 6), .int (I a 7)])) = va_pl L (pF cy K N T (p2 I a 2 x) Q J) := by
  have hs := va_pl_set (X := []) (e := .inr (0, [.int (I a 0), .int (I a 1), .int x, .int (I a 3), .int (I a 4), .int (I a 5), .int (I a 6), .int (I a 7)])) hD hL (hj.trans (by rw [pF_0 h]))
  refine hs.trans ?_
  show [] ++ _ = _
  rw [List.nil_append]
  refine va_pl_congr (fun b => ?_)
  by_cases hb : b = a
  · subst hb
    rw [va_up_self, pF_0 h]
    simp [p2, va_up]
  · rw [va_up_ne _ _ hb]
    simp [pF, p2, va_up, hb]
theorem pP_0_3 {cy : Nat → ClassId} {K N : Nat → Nat} {T : Nat → Nat → Nat} {I : Nat → Nat → Int32} {Q : Nat → Nat → Option Nat} {J : Nat → Nat → Int32} {A : Nat → Prop} {L : List Nat} {a j : Nat} {x : Int32} (hD : va_D A (va_pl L (pF cy K N T I Q J))) (hL : a ∈ L) (h : K a = 0) (hj : (va_pl L (pF cy K N T I Q J))[j]? = some (a, .inr (0, [.int (I a 0), .int (I a 1), .int (I a 2), .int (I a 3), .int (I a 4), .int (I a 5), .int (I a 6), .int (I a 7)]))) : (va_pl L (pF cy K N T I Q J)).set j (a, .inr (0, [.int (I a 0), .int (I a 1), .int (I a 2), .int x, .int (I a 4), .int (I a 5), .int (I a 6), .int (I a 7)])) = va_pl L (pF cy K N T (p2 I a 3 x) Q J) := by
  have hs := va_pl_set (X := []) (e := .inr (0, [.int (I a 0), .int (I a 1), .int (I a 2), .int x, .int (I a 4), .int (I a 5), .int (I a 6), .int (I a 7)])) hD hL (hj.trans (by rw [pF_0 h]))
  refine hs.trans ?_
  show [] ++ _ = _
  rw [List.nil_append]
  refine va_pl_congr (fun b => ?_)
  by_cases hb : b = a
  · subst hb
    rw [va_up_self, pF_0 h]
    simp [p2, va_up]
  · rw [va_up_ne _ _ hb]
    simp [pF, p2, va_up, hb]
theorem pP_0_4 {cy : Nat → ClassId} {K N : Nat → Nat} {T : Nat → Nat → Nat} {I : Nat → Nat → Int32} {Q : Nat → Nat → Option Nat} {J : Nat → Nat → Int32} {A : Nat → Prop} {L : List Nat} {a j : Nat} {x : Int32} (hD : va_D A (va_pl L (pF cy K N T I Q J))) (hL : a ∈ L) (h : K a = 0) (hj : (va_pl L (pF cy K N T I Q J))[j]? = some (a, .inr (0, [.int (I a 0), .int (I a 1), .int (I a 2), .int (I a 3), .int (I a 4), .int (I a 5), .int (I a 6), .int (I a 7)]))) : (va_pl L (pF cy K N T I Q J)).set j (a, .inr (0, [.int (I a 0), .int (I a 1), .int (I a 2), .int (I a 3), .int x, .int (I a 5), .int (I a 6), .int (I a 7)])) = va_pl L (pF cy K N T (p2 I a 4 x) Q J) := by
  have hs := va_pl_set (X := []) (e := .inr (0, [.int (I a 0), .int (I a 1), .int (I a 2), .int (I a 3), .int x, .int (I a 5), .int (I a 6), .int (I a 7)])) hD hL (hj.trans (by rw [pF_0 h]))
  refine hs.trans ?_
  show [] ++ _ = _
  rw [List.nil_append]
  refine va_pl_congr (fun b => ?_)
  by_cases hb : b = a
  · subst hb
    rw [va_up_self, pF_0 h]
    simp [p2, va_up]
  · rw [va_up_ne _ _ hb]
    simp [pF, p2, va_up, hb]
theorem pP_0_5 {cy : Nat → ClassId} {K N : Nat → Nat} {T : Nat → Nat → Nat} {I : Nat → Nat → Int32} {Q : Nat → Nat → Option Nat} {J : Nat → Nat → Int32} {A : Nat → Prop} {L : List Nat} {a j : Nat} {x : Int32} (hD : va_D A (va_pl L (pF cy K N T I Q J))) (hL : a ∈ L) (h : K a = 0) (hj : (va_pl L (pF cy K N T I Q J))[j]? = some (a, .inr (0, [.int (I a 0), .int (I a 1), .int (I a 2), .int (I a 3), .int (I a 4), .int (I a 5), .int (I a 6), .int (I a 7)]))) : (va_pl L (pF cy K N T I Q J)).set j (a, .inr (0, [.int (I a 0), .int (I a 1), .int (I a 2), .int (I a 3), .int (I a 4), .int x, .int (I a 6), .int (I a 7)])) = va_pl L (pF cy K N T (p2 I a 5 x) Q J) := by
  have hs := va_pl_set (X := []) (e := .inr (0, [.int (I a 0), .int (I a 1), .int (I a 2), .int (I a 3), .int (I a 4), .int x, .int (I a 6), .int (I a 7)])) hD hL (hj.trans (by rw [pF_0 h]))
  refine hs.trans ?_
  show [] ++ _ = _
  rw [List.nil_append]
  refine va_pl_congr (fun b => ?_)
  by_cases hb : b = a
  · subst hb
    rw [va_up_self, pF_0 h]
    simp [p2, va_up]
  · rw [va_up_ne _ _ hb]
    simp [pF, p2, va_up, hb]
theorem pP_0_6 {cy : Nat → ClassId} {K N : Nat → Nat} {T : Nat → Nat → Nat} {I : Nat → Nat → Int32} {Q : Nat → Nat → Option Nat} {J : Nat → Nat → Int32} {A : Nat → Prop} {L : List Nat} {a j : Nat} {x : Int32} (hD : va_D A (va_pl L (pF cy K N T I Q J))) (hL : a ∈ L) (h : K a = 0) (hj : (va_pl L (pF cy K N T I Q J))[j]? = some (a, .inr (0, [.int (I a 0), .int (I a 1), .int (I a 2), .int (I a 3), .int (I a 4), .int (I a 5), .int (I a 6), .int (I a 7)]))) : (va_pl L (pF cy K N T I Q J)).set j (a, .inr (0, [.int (I a 0), .int (I a 1), .int (I a 2), .int (I a 3), .int (I a 4), .int (I a 5), .int x, .int (I a 7)])) = va_pl L (pF cy K N T (p2 I a 6 x) Q J) := by
  have hs := va_pl_set (X := []) (e := .inr (0, [.int (I a 0), .int (I a 1), .int (I a 2), .int (I a 3), .int (I a 4), .int (I a 5), .int x, .int (I a 7)])) hD hL (hj.trans (by rw [pF_0 h]))
  refine hs.trans ?_
  show [] ++ _ = _
  rw [List.nil_append]
  refine va_pl_congr (fun b => ?_)
  by_cases hb : b = a
  · subst hb
    rw [va_up_self, pF_0 h]
    simp [p2, va_up]
  · rw [va_up_ne _ _ hb]
    simp [pF, p2, va_up, hb]
theorem pP_0_7 {cy : Nat → ClassId} {K N : Nat → Nat} {T : Nat → Nat → Nat} {I : Nat → Nat → Int32} {Q : Nat → Nat → Option Nat} {J : Nat → Nat → Int32} {A : Nat → Prop} {L : List Nat} {a j : Nat} {x : Int32} (hD : va_D A (va_pl L (pF cy K N T I Q J))) (hL : a ∈ L) (h : K a = 0) (hj : (va_pl L (pF cy K N T I Q J))[j]? = some (a, .inr (0, [.int (I a 0), .int (I a 1), .int (I a 2), .int (I a 3), .int (I a 4), .int (I a 5), .int (I a 6), .int (I a 7)]))) : (va_pl L (pF cy K N T I Q J)).set j (a, .inr (0, [.int (I a 0), .int (I a 1), .int (I a 2), .int (I a 3), .int (I a 4), .int (I a 5), .int (I a 6), .int x])) = va_pl L (pF cy K N T (p2 I a 7 x) Q J) := by
  have hs := va_pl_set (X := []) (e := .inr (0, [.int (I a 0), .int (I a 1), .int (I a 2), .int (I a 3), .int (I a 4), .int (I a 5), .int (I a 6), .int x])) hD hL (hj.trans (by rw [pF_0 h]))
  refine hs.trans ?_
  show [] ++ _ = _
  rw [List.nil_append]
  refine va_pl_congr (fun b => ?_)
  by_cases hb : b = a
  · subst hb
    rw [va_up_self, pF_0 h]
    simp [p2, va_up]
  · rw [va_up_ne _ _ hb]
    simp [pF, p2, va_up, hb]
theorem pF_1 {cy : Nat → ClassId} {K N : Nat → Nat} {T : Nat → Nat → Nat} {I : Nat → Nat → Int32} {Q : Nat → Nat → Option Nat} {J : Nat → Nat → Int32} {a : Nat} (h : K a = 1) : pF cy K N T I Q J a = .inr (1, [.int (I a 0), .int (I a 1), .ref (T a 2)]) := by simp [pF, h]
theorem pG_1 {cy : Nat → ClassId} {K N : Nat → Nat} {T : Nat → Nat → Nat} {I : Nat → Nat → Int32} {Q : Nat → Nat → Option Nat} {J : Nat → Nat → Int32} {L : List Nat} {a : Nat} (hL : a ∈ L) (h : K a = 1) : ∃ j : Nat, (va_pl L (pF cy K N T I Q J))[j]? = some (a, .inr (1, [.int (I a 0), .int (I a 1), .ref (T a 2)])) := by
  obtain ⟨j, hj⟩ := va_pl_get (X := []) (f := pF cy K N T I Q J) hL
  exact ⟨j, hj.trans (by rw [pF_1 h])⟩
theorem pP_1_0 {cy : Nat → ClassId} {K N : Nat → Nat} {T : Nat → Nat → Nat} {I : Nat → Nat → Int32} {Q : Nat → Nat → Option Nat} {J : Nat → Nat → Int32} {A : Nat → Prop} {L : List Nat} {a j : Nat} {x : Int32} (hD : va_D A (va_pl L (pF cy K N T I Q J))) (hL : a ∈ L) (h : K a = 1) (hj : (va_pl L (pF cy K N T I Q J))[j]? = some (a, .inr (1, [.int (I a 0), .int (I a 1), .ref (T a 2)]))) : (va_pl L (pF cy K N T I Q J)).set j (a, .inr (1, [.int x, .int (I a 1), .ref (T a 2)])) = va_pl L (pF cy K N T (p2 I a 0 x) Q J) := by
  have hs := va_pl_set (X := []) (e := .inr (1, [.int x, .int (I a 1), .ref (T a 2)])) hD hL (hj.trans (by rw [pF_1 h]))
  refine hs.trans ?_
  show [] ++ _ = _
  rw [List.nil_append]
  refine va_pl_congr (fun b => ?_)
  by_cases hb : b = a
  · subst hb
    rw [va_up_self, pF_1 h]
    simp [p2, va_up]
  · rw [va_up_ne _ _ hb]
    simp [pF, p2, va_up, hb]
theorem pP_1_1 {cy : Nat → ClassId} {K N : Nat → Nat} {T : Nat → Nat → Nat} {I : Nat → Nat → Int32} {Q : Nat → Nat → Option Nat} {J : Nat → Nat → Int32} {A : Nat → Prop} {L : List Nat} {a j : Nat} {x : Int32} (hD : va_D A (va_pl L (pF cy K N T I Q J))) (hL : a ∈ L) (h : K a = 1) (hj : (va_pl L (pF cy K N T I Q J))[j]? = some (a, .inr (1, [.int (I a 0), .int (I a 1), .ref (T a 2)]))) : (va_pl L (pF cy K N T I Q J)).set j (a, .inr (1, [.int (I a 0), .int x, .ref (T a 2)])) = va_pl L (pF cy K N T (p2 I a 1 x) Q J) := by
  have hs := va_pl_set (X := []) (e := .inr (1, [.int (I a 0), .int x, .ref (T a 2)])) hD hL (hj.trans (by rw [pF_1 h]))
  refine hs.trans ?_
  show [] ++ _ = _
  rw [List.nil_append]
  refine va_pl_congr (fun b => ?_)
  by_cases hb : b = a
  · subst hb
    rw [va_up_self, pF_1 h]
    simp [p2, va_up]
  · rw [va_up_ne _ _ hb]
    simp [pF, p2, va_up, hb]
theorem pF_2 {cy : Nat → ClassId} {K N : Nat → Nat} {T : Nat → Nat → Nat} {I : Nat → Nat → Int32} {Q : Nat → Nat → Option Nat} {J : Nat → Nat → Int32} {a : Nat} (h : K a = 2) : pF cy K N T I Q J a = .inr (2, [.int (I a 0), .int (I a 1), .ref (T a 2), .int (I a 3), .int (I a 4), .int (I a 5)]) := by simp [pF, h]
theorem pG_2 {cy : Nat → ClassId} {K N : Nat → Nat} {T : Nat → Nat → Nat} {I : Nat → Nat → Int32} {Q : Nat → Nat → Option Nat} {J : Nat → Nat → Int32} {L : List Nat} {a : Nat} (hL : a ∈ L) (h : K a = 2) : ∃ j : Nat, (va_pl L (pF cy K N T I Q J))[j]? = some (a, .inr (2, [.int (I a 0), .int (I a 1), .ref (T a 2), .int (I a 3), .int (I a 4), .int (I a 5)])) := by
  obtain ⟨j, hj⟩ := va_pl_get (X := []) (f := pF cy K N T I Q J) hL
  exact ⟨j, hj.trans (by rw [pF_2 h])⟩
theorem pP_2_0 {cy : Nat → ClassId} {K N : Nat → Nat} {T : Nat → Nat → Nat} {I : Nat → Nat → Int32} {Q : Nat → Nat → Option Nat} {J : Nat → Nat → Int32} {A : Nat → Prop} {L : List Nat} {a j : Nat} {x : Int32} (hD : va_D A (va_pl L (pF cy K N T I Q J))) (hL : a ∈ L) (h : K a = 2) (hj : (va_pl L (pF cy K N T I Q J))[j]? = some (a, .inr (2, [.int (I a 0), .int (I a 1), .ref (T a 2), .int (I a 3), .int (I a 4), .int (I a 5)]))) : (va_pl L (pF cy K N T I Q J)).set j (a, .inr (2, [.int x, .int (I a 1), .ref (T a 2), .int (I a 3), .int (I a 4), .int (I a 5)])) = va_pl L (pF cy K N T (p2 I a 0 x) Q J) := by
  have hs := va_pl_set (X := []) (e := .inr (2, [.int x, .int (I a 1), .ref (T a 2), .int (I a 3), .int (I a 4), .int (I a 5)])) hD hL (hj.trans (by rw [pF_2 h]))
  refine hs.trans ?_
  show [] ++ _ = _
  rw [List.nil_append]
  refine va_pl_congr (fun b => ?_)
  by_cases hb : b = a
  · subst hb
    rw [va_up_self, pF_2 h]
    simp [p2, va_up]
  · rw [va_up_ne _ _ hb]
    simp [pF, p2, va_up, hb]
theorem pP_2_1 {cy : Nat → ClassId} {K N : Nat → Nat} {T : Nat → Nat → Nat} {I : Nat → Nat → Int32} {Q : Nat → Nat → Option Nat} {J : Nat → Nat → Int32} {A : Nat → Prop} {L : List Nat} {a j : Nat} {x : Int32} (hD : va_D A (va_pl L (pF cy K N T I Q J))) (hL : a ∈ L) (h : K a = 2) (hj : (va_pl L (pF cy K N T I Q J))[j]? = some (a, .inr (2, [.int (I a 0), .int (I a 1), .ref (T a 2), .int (I a 3), .int (I a 4), .int (I a 5)]))) : (va_pl L (pF cy K N T I Q J)).set j (a, .inr (2, [.int (I a 0), .int x, .ref (T a 2), .int (I a 3), .int (I a 4), .int (I a 5)])) = va_pl L (pF cy K N T (p2 I a 1 x) Q J) := by
  have hs := va_pl_set (X := []) (e := .inr (2, [.int (I a 0), .int x, .ref (T a 2), .int (I a 3), .int (I a 4), .int (I a 5)])) hD hL (hj.trans (by rw [pF_2 h]))
  refine hs.trans ?_
  show [] ++ _ = _
  rw [List.nil_append]
  refine va_pl_congr (fun b => ?_)
  by_cases hb : b = a
  · subst hb
    rw [va_up_self, pF_2 h]
    simp [p2, va_up]
  · rw [va_up_ne _ _ hb]
    simp [pF, p2, va_up, hb]
theorem pP_2_3 {cy : Nat → ClassId} {K N : Nat → Nat} {T : Nat → Nat → Nat} {I : Nat → Nat → Int32} {Q : Nat → Nat → Option Nat} {J : Nat → Nat → Int32} {A : Nat → Prop} {L : List Nat} {a j : Nat} {x : Int32} (hD : va_D A (va_pl L (pF cy K N T I Q J))) (hL : a ∈ L) (h : K a = 2) (hj : (va_pl L (pF cy K N T I Q J))[j]? = some (a, .inr (2, [.int (I a 0), .int (I a 1), .ref (T a 2), .int (I a 3), .int (I a 4), .int (I a 5)]))) : (va_pl L (pF cy K N T I Q J)).set j (a, .inr (2, [.int (I a 0), .int (I a 1), .ref (T a 2), .int x, .int (I a 4), .int (I a 5)])) = va_pl L (pF cy K N T (p2 I a 3 x) Q J) := by
  have hs := va_pl_set (X := []) (e := .inr (2, [.int (I a 0), .int (I a 1), .ref (T a 2), .int x, .int (I a 4), .int (I a 5)])) hD hL (hj.trans (by rw [pF_2 h]))
  refine hs.trans ?_
  show [] ++ _ = _
  rw [List.nil_append]
  refine va_pl_congr (fun b => ?_)
  by_cases hb : b = a
  · subst hb
    rw [va_up_self, pF_2 h]
    simp [p2, va_up]
  · rw [va_up_ne _ _ hb]
    simp [pF, p2, va_up, hb]
theorem pP_2_4 {cy : Nat → ClassId} {K N : Nat → Nat} {T : Nat → Nat → Nat} {I : Nat → Nat → Int32} {Q : Nat → Nat → Option Nat} {J : Nat → Nat → Int32} {A : Nat → Prop} {L : List Nat} {a j : Nat} {x : Int32} (hD : va_D A (va_pl L (pF cy K N T I Q J))) (hL : a ∈ L) (h : K a = 2) (hj : (va_pl L (pF cy K N T I Q J))[j]? = some (a, .inr (2, [.int (I a 0), .int (I a 1), .ref (T a 2), .int (I a 3), .int (I a 4), .int (I a 5)]))) : (va_pl L (pF cy K N T I Q J)).set j (a, .inr (2, [.int (I a 0), .int (I a 1), .ref (T a 2), .int (I a 3), .int x, .int (I a 5)])) = va_pl L (pF cy K N T (p2 I a 4 x) Q J) := by
  have hs := va_pl_set (X := []) (e := .inr (2, [.int (I a 0), .int (I a 1), .ref (T a 2), .int (I a 3), .int x, .int (I a 5)])) hD hL (hj.trans (by rw [pF_2 h]))
  refine hs.trans ?_
  show [] ++ _ = _
  rw [List.nil_append]
  refine va_pl_congr (fun b => ?_)
  by_cases hb : b = a
  · subst hb
    rw [va_up_self, pF_2 h]
    simp [p2, va_up]
  · rw [va_up_ne _ _ hb]
    simp [pF, p2, va_up, hb]
theorem pP_2_5 {cy : Nat → ClassId} {K N : Nat → Nat} {T : Nat → Nat → Nat} {I : Nat → Nat → Int32} {Q : Nat → Nat → Option Nat} {J : Nat → Nat → Int32} {A : Nat → Prop} {L : List Nat} {a j : Nat} {x : Int32} (hD : va_D A (va_pl L (pF cy K N T I Q J))) (hL : a ∈ L) (h : K a = 2) (hj : (va_pl L (pF cy K N T I Q J))[j]? = some (a, .inr (2, [.int (I a 0), .int (I a 1), .ref (T a 2), .int (I a 3), .int (I a 4), .int (I a 5)]))) : (va_pl L (pF cy K N T I Q J)).set j (a, .inr (2, [.int (I a 0), .int (I a 1), .ref (T a 2), .int (I a 3), .int (I a 4), .int x])) = va_pl L (pF cy K N T (p2 I a 5 x) Q J) := by
  have hs := va_pl_set (X := []) (e := .inr (2, [.int (I a 0), .int (I a 1), .ref (T a 2), .int (I a 3), .int (I a 4), .int x])) hD hL (hj.trans (by rw [pF_2 h]))
  refine hs.trans ?_
  show [] ++ _ = _
  rw [List.nil_append]
  refine va_pl_congr (fun b => ?_)
  by_cases hb : b = a
  · subst hb
    rw [va_up_self, pF_2 h]
    simp [p2, va_up]
  · rw [va_up_ne _ _ hb]
    simp [pF, p2, va_up, hb]
theorem pF_3 {cy : Nat → ClassId} {K N : Nat → Nat} {T : Nat → Nat → Nat} {I : Nat → Nat → Int32} {Q : Nat → Nat → Option Nat} {J : Nat → Nat → Int32} {a : Nat} (h : K a = 3) : pF cy K N T I Q J a = .inr (3, [.int (I a 0), .int (I a 1), .int (I a 2), .int (I a 3), .int (I a 4), .int (I a 5)]) := by simp [pF, h]
theorem pG_3 {cy : Nat → ClassId} {K N : Nat → Nat} {T : Nat → Nat → Nat} {I : Nat → Nat → Int32} {Q : Nat → Nat → Option Nat} {J : Nat → Nat → Int32} {L : List Nat} {a : Nat} (hL : a ∈ L) (h : K a = 3) : ∃ j : Nat, (va_pl L (pF cy K N T I Q J))[j]? = some (a, .inr (3, [.int (I a 0), .int (I a 1), .int (I a 2), .int (I a 3), .int (I a 4), .int (I a 5)])) := by
  obtain ⟨j, hj⟩ := va_pl_get (X := []) (f := pF cy K N T I Q J) hL
  exact ⟨j, hj.trans (by rw [pF_3 h])⟩
theorem pP_3_0 {cy : Nat → ClassId} {K N : Nat → Nat} {T : Nat → Nat → Nat} {I : Nat → Nat → Int32} {Q : Nat → Nat → Option Nat} {J : Nat → Nat → Int32} {A : Nat → Prop} {L : List Nat} {a j : Nat} {x : Int32} (hD : va_D A (va_pl L (pF cy K N T I Q J))) (hL : a ∈ L) (h : K a = 3) (hj : (va_pl L (pF cy K N T I Q J))[j]? = some (a, .inr (3, [.int (I a 0), .int (I a 1), .int (I a 2), .int (I a 3), .int (I a 4), .int (I a 5)]))) : (va_pl L (pF cy K N T I Q J)).set j (a, .inr (3, [.int x, .int (I a 1), .int (I a 2), .int (I a 3), .int (I a 4), .int (I a 5)])) = va_pl L (pF cy K N T (p2 I a 0 x) Q J) := by
  have hs := va_pl_set (X := []) (e := .inr (3, [.int x, .int (I a 1), .int (I a 2), .int (I a 3), .int (I a 4), .int (I a 5)])) hD hL (hj.trans (by rw [pF_3 h]))
  refine hs.trans ?_
  show [] ++ _ = _
  rw [List.nil_append]
  refine va_pl_congr (fun b => ?_)
  by_cases hb : b = a
  · subst hb
    rw [va_up_self, pF_3 h]
    simp [p2, va_up]
  · rw [va_up_ne _ _ hb]
    simp [pF, p2, va_up, hb]
theorem pP_3_1 {cy : Nat → ClassId} {K N : Nat → Nat} {T : Nat → Nat → Nat} {I : Nat → Nat → Int32} {Q : Nat → Nat → Option Nat} {J : Nat → Nat → Int32} {A : Nat → Prop} {L : List Nat} {a j : Nat} {x : Int32} (hD : va_D A (va_pl L (pF cy K N T I Q J))) (hL : a ∈ L) (h : K a = 3) (hj : (va_pl L (pF cy K N T I Q J))[j]? = some (a, .inr (3, [.int (I a 0), .int (I a 1), .int (I a 2), .int (I a 3), .int (I a 4), .int (I a 5)]))) : (va_pl L (pF cy K N T I Q J)).set j (a, .inr (3, [.int (I a 0), .int x, .int (I a 2), .int (I a 3), .int (I a 4), .int (I a 5)])) = va_pl L (pF cy K N T (p2 I a 1 x) Q J) := by
  have hs := va_pl_set (X := []) (e := .inr (3, [.int (I a 0), .int x, .int (I a 2), .int (I a 3), .int (I a 4), .int (I a 5)])) hD hL (hj.trans (by rw [pF_3 h]))
  refine hs.trans ?_
  show [] ++ _ = _
  rw [List.nil_append]
  refine va_pl_congr (fun b => ?_)
  by_cases hb : b = a
  · subst hb
    rw [va_up_self, pF_3 h]
    simp [p2, va_up]
  · rw [va_up_ne _ _ hb]
    simp [pF, p2, va_up, hb]
theorem pP_3_2 {cy : Nat → ClassId} {K N : Nat → Nat} {T : Nat → Nat → Nat} {I : Nat → Nat → Int32} {Q : Nat → Nat → Option Nat} {J : Nat → Nat → Int32} {A : Nat → Prop} {L : List Nat} {a j : Nat} {x : Int32} (hD : va_D A (va_pl L (pF cy K N T I Q J))) (hL : a ∈ L) (h : K a = 3) (hj : (va_pl L (pF cy K N T I Q J))[j]? = some (a, .inr (3, [.int (I a 0), .int (I a 1), .int (I a 2), .int (I a 3), .int (I a 4), .int (I a 5)]))) : (va_pl L (pF cy K N T I Q J)).set j (a, .inr (3, [.int (I a 0), .int (I a 1), .int x, .int (I a 3), .int (I a 4), .int (I a 5)])) = va_pl L (pF cy K N T (p2 I a 2 x) Q J) := by
  have hs := va_pl_set (X := []) (e := .inr (3, [.int (I a 0), .int (I a 1), .int x, .int (I a 3), .int (I a 4), .int (I a 5)])) hD hL (hj.trans (by rw [pF_3 h]))
  refine hs.trans ?_
  show [] ++ _ = _
  rw [List.nil_append]
  refine va_pl_congr (fun b => ?_)
  by_cases hb : b = a
  · subst hb
    rw [va_up_self, pF_3 h]
    simp [p2, va_up]
  · rw [va_up_ne _ _ hb]
    simp [pF, p2, va_up, hb]
theorem pP_3_3 {cy : Nat → ClassId} {K N : Nat → Nat} {T : Nat → Nat → Nat} {I : Nat → Nat → Int32} {Q : Nat → Nat → Option Nat} {J : Nat → Nat → Int32} {A : Nat → Prop} {L : List Nat} {a j : Nat} {x : Int32} (hD : va_D A (va_pl L (pF cy K N T I Q J))) (hL : a ∈ L) (h : K a = 3) (hj : (va_pl L (pF cy K N T I Q J))[j]? = some (a, .inr (3, [.int (I a 0), .int (I a 1), .int (I a 2), .int (I a 3), .int (I a 4), .int (I a 5)]))) : (va_pl L (pF cy K N T I Q J)).set j (a, .inr (3, [.int (I a 0), .int (I a 1), .int (I a 2), .int x, .int (I a 4), .int (I a 5)])) = va_pl L (pF cy K N T (p2 I a 3 x) Q J) := by
  have hs := va_pl_set (X := []) (e := .inr (3, [.int (I a 0), .int (I a 1), .int (I a 2), .int x, .int (I a 4), .int (I a 5)])) hD hL (hj.trans (by rw [pF_3 h]))
  refine hs.trans ?_
  show [] ++ _ = _
  rw [List.nil_append]
  refine va_pl_congr (fun b => ?_)
  by_cases hb : b = a
  · subst hb
    rw [va_up_self, pF_3 h]
    simp [p2, va_up]
  · rw [va_up_ne _ _ hb]
    simp [pF, p2, va_up, hb]
theorem pP_3_4 {cy : Nat → ClassId} {K N : Nat → Nat} {T : Nat → Nat → Nat} {I : Nat → Nat → Int32} {Q : Nat → Nat → Option Nat} {J : Nat → Nat → Int32} {A : Nat → Prop} {L : List Nat} {a j : Nat} {x : Int32} (hD : va_D A (va_pl L (pF cy K N T I Q J))) (hL : a ∈ L) (h : K a = 3) (hj : (va_pl L (pF cy K N T I Q J))[j]? = some (a, .inr (3, [.int (I a 0), .int (I a 1), .int (I a 2), .int (I a 3), .int (I a 4), .int (I a 5)]))) : (va_pl L (pF cy K N T I Q J)).set j (a, .inr (3, [.int (I a 0), .int (I a 1), .int (I a 2), .int (I a 3), .int x, .int (I a 5)])) = va_pl L (pF cy K N T (p2 I a 4 x) Q J) := by
  have hs := va_pl_set (X := []) (e := .inr (3, [.int (I a 0), .int (I a 1), .int (I a 2), .int (I a 3), .int x, .int (I a 5)])) hD hL (hj.trans (by rw [pF_3 h]))
  refine hs.trans ?_
  show [] ++ _ = _
  rw [List.nil_append]
  refine va_pl_congr (fun b => ?_)
  by_cases hb : b = a
  · subst hb
    rw [va_up_self, pF_3 h]
    simp [p2, va_up]
  · rw [va_up_ne _ _ hb]
    simp [pF, p2, va_up, hb]
theorem pP_3_5 {cy : Nat → ClassId} {K N : Nat → Nat} {T : Nat → Nat → Nat} {I : Nat → Nat → Int32} {Q : Nat → Nat → Option Nat} {J : Nat → Nat → Int32} {A : Nat → Prop} {L : List Nat} {a j : Nat} {x : Int32} (hD : va_D A (va_pl L (pF cy K N T I Q J))) (hL : a ∈ L) (h : K a = 3) (hj : (va_pl L (pF cy K N T I Q J))[j]? = some (a, .inr (3, [.int (I a 0), .int (I a 1), .int (I a 2), .int (I a 3), .int (I a 4), .int (I a 5)]))) : (va_pl L (pF cy K N T I Q J)).set j (a, .inr (3, [.int (I a 0), .int (I a 1), .int (I a 2), .int (I a 3), .int (I a 4), .int x])) = va_pl L (pF cy K N T (p2 I a 5 x) Q J) := by
  have hs := va_pl_set (X := []) (e := .inr (3, [.int (I a 0), .int (I a 1), .int (I a 2), .int (I a 3), .int (I a 4), .int x])) hD hL (hj.trans (by rw [pF_3 h]))
  refine hs.trans ?_
  show [] ++ _ = _
  rw [List.nil_append]
  refine va_pl_congr (fun b => ?_)
  by_cases hb : b = a
  · subst hb
    rw [va_up_self, pF_3 h]
    simp [p2, va_up]
  · rw [va_up_ne _ _ hb]
    simp [pF, p2, va_up, hb]
theorem pF_4 {cy : Nat → ClassId} {K N : Nat → Nat} {T : Nat → Nat → Nat} {I : Nat → Nat → Int32} {Q : Nat → Nat → Option Nat} {J : Nat → Nat → Int32} {a : Nat} (h : K a = 4) : pF cy K N T I Q J a = .inr (4, [.ref (T a 0), .int (I a 1), .int (I a 2), .int (I a 3), .int (I a 4), .int (I a 5), .int (I a 6)]) := by simp [pF, h]
theorem pG_4 {cy : Nat → ClassId} {K N : Nat → Nat} {T : Nat → Nat → Nat} {I : Nat → Nat → Int32} {Q : Nat → Nat → Option Nat} {J : Nat → Nat → Int32} {L : List Nat} {a : Nat} (hL : a ∈ L) (h : K a = 4) : ∃ j : Nat, (va_pl L (pF cy K N T I Q J))[j]? = some (a, .inr (4, [.ref (T a 0), .int (I a 1), .int (I a 2), .int (I a 3), .int (I a 4), .int (I a 5), .int (I a 6)])) := by
  obtain ⟨j, hj⟩ := va_pl_get (X := []) (f := pF cy K N T I Q J) hL
  exact ⟨j, hj.trans (by rw [pF_4 h])⟩
theorem pP_4_1 {cy : Nat → ClassId} {K N : Nat → Nat} {T : Nat → Nat → Nat} {I : Nat → Nat → Int32} {Q : Nat → Nat → Option Nat} {J : Nat → Nat → Int32} {A : Nat → Prop} {L : List Nat} {a j : Nat} {x : Int32} (hD : va_D A (va_pl L (pF cy K N T I Q J))) (hL : a ∈ L) (h : K a = 4) (hj : (va_pl L (pF cy K N T I Q J))[j]? = some (a, .inr (4, [.ref (T a 0), .int (I a 1), .int (I a 2), .int (I a 3), .int (I a 4), .int (I a 5), .int (I a 6)]))) : (va_pl L (pF cy K N T I Q J)).set j (a, .inr (4, [.ref (T a 0), .int x, .int (I a 2), .int (I a 3), .int (I a 4), .int (I a 5), .int (I a 6)])) = va_pl L (pF cy K N T (p2 I a 1 x) Q J) := by
  have hs := va_pl_set (X := []) (e := .inr (4, [.ref (T a 0), .int x, .int (I a 2), .int (I a 3), .int (I a 4), .int (I a 5), .int (I a 6)])) hD hL (hj.trans (by rw [pF_4 h]))
  refine hs.trans ?_
  show [] ++ _ = _
  rw [List.nil_append]
  refine va_pl_congr (fun b => ?_)
  by_cases hb : b = a
  · subst hb
    rw [va_up_self, pF_4 h]
    simp [p2, va_up]
  · rw [va_up_ne _ _ hb]
    simp [pF, p2, va_up, hb]
theorem pP_4_2 {cy : Nat → ClassId} {K N : Nat → Nat} {T : Nat → Nat → Nat} {I : Nat → Nat → Int32} {Q : Nat → Nat → Option Nat} {J : Nat → Nat → Int32} {A : Nat → Prop} {L : List Nat} {a j : Nat} {x : Int32} (hD : va_D A (va_pl L (pF cy K N T I Q J))) (hL : a ∈ L) (h : K a = 4) (hj : (va_pl L (pF cy K N T I Q J))[j]? = some (a, .inr (4, [.ref (T a 0), .int (I a 1), .int (I a 2), .int (I a 3), .int (I a 4), .int (I a 5), .int (I a 6)]))) : (va_pl L (pF cy K N T I Q J)).set j (a, .inr (4, [.ref (T a 0), .int (I a 1), .int x, .int (I a 3), .int (I a 4), .int (I a 5), .int (I a 6)])) = va_pl L (pF cy K N T (p2 I a 2 x) Q J) := by
  have hs := va_pl_set (X := []) (e := .inr (4, [.ref (T a 0), .int (I a 1), .int x, .int (I a 3), .int (I a 4), .int (I a 5), .int (I a 6)])) hD hL (hj.trans (by rw [pF_4 h]))
  refine hs.trans ?_
  show [] ++ _ = _
  rw [List.nil_append]
  refine va_pl_congr (fun b => ?_)
  by_cases hb : b = a
  · subst hb
    rw [va_up_self, pF_4 h]
    simp [p2, va_up]
  · rw [va_up_ne _ _ hb]
    simp [pF, p2, va_up, hb]
theorem pP_4_3 {cy : Nat → ClassId} {K N : Nat → Nat} {T : Nat → Nat → Nat} {I : Nat → Nat → Int32} {Q : Nat → Nat → Option Nat} {J : Nat → Nat → Int32} {A : Nat → Prop} {L : List Nat} {a j : Nat} {x : Int32} (hD : va_D A (va_pl L (pF cy K N T I Q J))) (hL : a ∈ L) (h : K a = 4) (hj : (va_pl L (pF cy K N T I Q J))[j]? = some (a, .inr (4, [.ref (T a 0), .int (I a 1), .int (I a 2), .int (I a 3), .int (I a 4), .int (I a 5), .int (I a 6)]))) : (va_pl L (pF cy K N T I Q J)).set j (a, .inr (4, [.ref (T a 0), .int (I a 1), .int (I a 2), .int x, .int (I a 4), .int (I a 5), .int (I a 6)])) = va_pl L (pF cy K N T (p2 I a 3 x) Q J) := by
  have hs := va_pl_set (X := []) (e := .inr (4, [.ref (T a 0), .int (I a 1), .int (I a 2), .int x, .int (I a 4), .int (I a 5), .int (I a 6)])) hD hL (hj.trans (by rw [pF_4 h]))
  refine hs.trans ?_
  show [] ++ _ = _
  rw [List.nil_append]
  refine va_pl_congr (fun b => ?_)
  by_cases hb : b = a
  · subst hb
    rw [va_up_self, pF_4 h]
    simp [p2, va_up]
  · rw [va_up_ne _ _ hb]
    simp [pF, p2, va_up, hb]
theorem pP_4_4 {cy : Nat → ClassId} {K N : Nat → Nat} {T : Nat → Nat → Nat} {I : Nat → Nat → Int32} {Q : Nat → Nat → Option Nat} {J : Nat → Nat → Int32} {A : Nat → Prop} {L : List Nat} {a j : Nat} {x : Int32} (hD : va_D A (va_pl L (pF cy K N T I Q J))) (hL : a ∈ L) (h : K a = 4) (hj : (va_pl L (pF cy K N T I Q J))[j]? = some (a, .inr (4, [.ref (T a 0), .int (I a 1), .int (I a 2), .int (I a 3), .int (I a 4), .int (I a 5), .int (I a 6)]))) : (va_pl L (pF cy K N T I Q J)).set j (a, .inr (4, [.ref (T a 0), .int (I a 1), .int (I a 2), .int (I a 3), .int x, .int (I a 5), .int (I a 6)])) = va_pl L (pF cy K N T (p2 I a 4 x) Q J) := by
  have hs := va_pl_set (X := []) (e := .inr (4, [.ref (T a 0), .int (I a 1), .int (I a 2), .int (I a 3), .int x, .int (I a 5), .int (I a 6)])) hD hL (hj.trans (by rw [pF_4 h]))
  refine hs.trans ?_
  show [] ++ _ = _
  rw [List.nil_append]
  refine va_pl_congr (fun b => ?_)
  by_cases hb : b = a
  · subst hb
    rw [va_up_self, pF_4 h]
    simp [p2, va_up]
  · rw [va_up_ne _ _ hb]
    simp [pF, p2, va_up, hb]
theorem pP_4_5 {cy : Nat → ClassId} {K N : Nat → Nat} {T : Nat → Nat → Nat} {I : Nat → Nat → Int32} {Q : Nat → Nat → Option Nat} {J : Nat → Nat → Int32} {A : Nat → Prop} {L : List Nat} {a j : Nat} {x : Int32} (hD : va_D A (va_pl L (pF cy K N T I Q J))) (hL : a ∈ L) (h : K a = 4) (hj : (va_pl L (pF cy K N T I Q J))[j]? = some (a, .inr (4, [.ref (T a 0), .int (I a 1), .int (I a 2), .int (I a 3), .int (I a 4), .int (I a 5), .int (I a 6)]))) : (va_pl L (pF cy K N T I Q J)).set j (a, .inr (4, [.ref (T a 0), .int (I a 1), .int (I a 2), .int (I a 3), .int (I a 4), .int x, .int (I a 6)])) = va_pl L (pF cy K N T (p2 I a 5 x) Q J) := by
  have hs := va_pl_set (X := []) (e := .inr (4, [.ref (T a 0), .int (I a 1), .int (I a 2), .int (I a 3), .int (I a 4), .int x, .int (I a 6)])) hD hL (hj.trans (by rw [pF_4 h]))
  refine hs.trans ?_
  show [] ++ _ = _
  rw [List.nil_append]
  refine va_pl_congr (fun b => ?_)
  by_cases hb : b = a
  · subst hb
    rw [va_up_self, pF_4 h]
    simp [p2, va_up]
  · rw [va_up_ne _ _ hb]
    simp [pF, p2, va_up, hb]
theorem pP_4_6 {cy : Nat → ClassId} {K N : Nat → Nat} {T : Nat → Nat → Nat} {I : Nat → Nat → Int32} {Q : Nat → Nat → Option Nat} {J : Nat → Nat → Int32} {A : Nat → Prop} {L : List Nat} {a j : Nat} {x : Int32} (hD : va_D A (va_pl L (pF cy K N T I Q J))) (hL : a ∈ L) (h : K a = 4) (hj : (va_pl L (pF cy K N T I Q J))[j]? = some (a, .inr (4, [.ref (T a 0), .int (I a 1), .int (I a 2), .int (I a 3), .int (I a 4), .int (I a 5), .int (I a 6)]))) : (va_pl L (pF cy K N T I Q J)).set j (a, .inr (4, [.ref (T a 0), .int (I a 1), .int (I a 2), .int (I a 3), .int (I a 4), .int (I a 5), .int x])) = va_pl L (pF cy K N T (p2 I a 6 x) Q J) := by
  have hs := va_pl_set (X := []) (e := .inr (4, [.ref (T a 0), .int (I a 1), .int (I a 2), .int (I a 3), .int (I a 4), .int (I a 5), .int x])) hD hL (hj.trans (by rw [pF_4 h]))
  refine hs.trans ?_
  show [] ++ _ = _
  rw [List.nil_append]
  refine va_pl_congr (fun b => ?_)
  by_cases hb : b = a
  · subst hb
    rw [va_up_self, pF_4 h]
    simp [p2, va_up]
  · rw [va_up_ne _ _ hb]
    simp [pF, p2, va_up, hb]
theorem pF_5 {cy : Nat → ClassId} {K N : Nat → Nat} {T : Nat → Nat → Nat} {I : Nat → Nat → Int32} {Q : Nat → Nat → Option Nat} {J : Nat → Nat → Int32} {a : Nat} (h : K a = 5) : pF cy K N T I Q J a = .inr (5, [.ref (T a 0), .ref (T a 1), .ref (T a 2), .int (I a 3), .int (I a 4), va_rf (Q a 5)]) := by simp [pF, h]
theorem pG_5 {cy : Nat → ClassId} {K N : Nat → Nat} {T : Nat → Nat → Nat} {I : Nat → Nat → Int32} {Q : Nat → Nat → Option Nat} {J : Nat → Nat → Int32} {L : List Nat} {a : Nat} (hL : a ∈ L) (h : K a = 5) : ∃ j : Nat, (va_pl L (pF cy K N T I Q J))[j]? = some (a, .inr (5, [.ref (T a 0), .ref (T a 1), .ref (T a 2), .int (I a 3), .int (I a 4), va_rf (Q a 5)])) := by
  obtain ⟨j, hj⟩ := va_pl_get (X := []) (f := pF cy K N T I Q J) hL
  exact ⟨j, hj.trans (by rw [pF_5 h])⟩
theorem pP_5_3 {cy : Nat → ClassId} {K N : Nat → Nat} {T : Nat → Nat → Nat} {I : Nat → Nat → Int32} {Q : Nat → Nat → Option Nat} {J : Nat → Nat → Int32} {A : Nat → Prop} {L : List Nat} {a j : Nat} {x : Int32} (hD : va_D A (va_pl L (pF cy K N T I Q J))) (hL : a ∈ L) (h : K a = 5) (hj : (va_pl L (pF cy K N T I Q J))[j]? = some (a, .inr (5, [.ref (T a 0), .ref (T a 1), .ref (T a 2), .int (I a 3), .int (I a 4), va_rf (Q a 5)]))) : (va_pl L (pF cy K N T I Q J)).set j (a, .inr (5, [.ref (T a 0), .ref (T a 1), .ref (T a 2), .int x, .int (I a 4), va_rf (Q a 5)])) = va_pl L (pF cy K N T (p2 I a 3 x) Q J) := by
  have hs := va_pl_set (X := []) (e := .inr (5, [.ref (T a 0), .ref (T a 1), .ref (T a 2), .int x, .int (I a 4), va_rf (Q a 5)])) hD hL (hj.trans (by rw [pF_5 h]))
  refine hs.trans ?_
  show [] ++ _ = _
  rw [List.nil_append]
  refine va_pl_congr (fun b => ?_)
  by_cases hb : b = a
  · subst hb
    rw [va_up_self, pF_5 h]
    simp [p2, va_up]
  · rw [va_up_ne _ _ hb]
    simp [pF, p2, va_up, hb]
theorem pP_5_4 {cy : Nat → ClassId} {K N : Nat → Nat} {T : Nat → Nat → Nat} {I : Nat → Nat → Int32} {Q : Nat → Nat → Option Nat} {J : Nat → Nat → Int32} {A : Nat → Prop} {L : List Nat} {a j : Nat} {x : Int32} (hD : va_D A (va_pl L (pF cy K N T I Q J))) (hL : a ∈ L) (h : K a = 5) (hj : (va_pl L (pF cy K N T I Q J))[j]? = some (a, .inr (5, [.ref (T a 0), .ref (T a 1), .ref (T a 2), .int (I a 3), .int (I a 4), va_rf (Q a 5)]))) : (va_pl L (pF cy K N T I Q J)).set j (a, .inr (5, [.ref (T a 0), .ref (T a 1), .ref (T a 2), .int (I a 3), .int x, va_rf (Q a 5)])) = va_pl L (pF cy K N T (p2 I a 4 x) Q J) := by
  have hs := va_pl_set (X := []) (e := .inr (5, [.ref (T a 0), .ref (T a 1), .ref (T a 2), .int (I a 3), .int x, va_rf (Q a 5)])) hD hL (hj.trans (by rw [pF_5 h]))
  refine hs.trans ?_
  show [] ++ _ = _
  rw [List.nil_append]
  refine va_pl_congr (fun b => ?_)
  by_cases hb : b = a
  · subst hb
    rw [va_up_self, pF_5 h]
    simp [p2, va_up]
  · rw [va_up_ne _ _ hb]
    simp [pF, p2, va_up, hb]
theorem pP_5_5 {cy : Nat → ClassId} {K N : Nat → Nat} {T : Nat → Nat → Nat} {I : Nat → Nat → Int32} {Q : Nat → Nat → Option Nat} {J : Nat → Nat → Int32} {A : Nat → Prop} {L : List Nat} {a j : Nat} {x : Option Nat} (hD : va_D A (va_pl L (pF cy K N T I Q J))) (hL : a ∈ L) (h : K a = 5) (hj : (va_pl L (pF cy K N T I Q J))[j]? = some (a, .inr (5, [.ref (T a 0), .ref (T a 1), .ref (T a 2), .int (I a 3), .int (I a 4), va_rf (Q a 5)]))) : (va_pl L (pF cy K N T I Q J)).set j (a, .inr (5, [.ref (T a 0), .ref (T a 1), .ref (T a 2), .int (I a 3), .int (I a 4), va_rf x])) = va_pl L (pF cy K N T I (p2 Q a 5 x) J) := by
  have hs := va_pl_set (X := []) (e := .inr (5, [.ref (T a 0), .ref (T a 1), .ref (T a 2), .int (I a 3), .int (I a 4), va_rf x])) hD hL (hj.trans (by rw [pF_5 h]))
  refine hs.trans ?_
  show [] ++ _ = _
  rw [List.nil_append]
  refine va_pl_congr (fun b => ?_)
  by_cases hb : b = a
  · subst hb
    rw [va_up_self, pF_5 h]
    simp [p2, va_up]
  · rw [va_up_ne _ _ hb]
    simp [pF, p2, va_up, hb]
theorem pF_6 {cy : Nat → ClassId} {K N : Nat → Nat} {T : Nat → Nat → Nat} {I : Nat → Nat → Int32} {Q : Nat → Nat → Option Nat} {J : Nat → Nat → Int32} {a : Nat} (h : K a = 6) : pF cy K N T I Q J a = .inr (6, [.ref (T a 0), .int (I a 1), .int (I a 2), .int (I a 3), .int (I a 4), .int (I a 5), .int (I a 6)]) := by simp [pF, h]
theorem pG_6 {cy : Nat → ClassId} {K N : Nat → Nat} {T : Nat → Nat → Nat} {I : Nat → Nat → Int32} {Q : Nat → Nat → Option Nat} {J : Nat → Nat → Int32} {L : List Nat} {a : Nat} (hL : a ∈ L) (h : K a = 6) : ∃ j : Nat, (va_pl L (pF cy K N T I Q J))[j]? = some (a, .inr (6, [.ref (T a 0), .int (I a 1), .int (I a 2), .int (I a 3), .int (I a 4), .int (I a 5), .int (I a 6)])) := by
  obtain ⟨j, hj⟩ := va_pl_get (X := []) (f := pF cy K N T I Q J) hL
  exact ⟨j, hj.trans (by rw [pF_6 h])⟩
theorem pP_6_1 {cy : Nat → ClassId} {K N : Nat → Nat} {T : Nat → Nat → Nat} {I : Nat → Nat → Int32} {Q : Nat → Nat → Option Nat} {J : Nat → Nat → Int32} {A : Nat → Prop} {L : List Nat} {a j : Nat} {x : Int32} (hD : va_D A (va_pl L (pF cy K N T I Q J))) (hL : a ∈ L) (h : K a = 6) (hj : (va_pl L (pF cy K N T I Q J))[j]? = some (a, .inr (6, [.ref (T a 0), .int (I a 1), .int (I a 2), .int (I a 3), .int (I a 4), .int (I a 5), .int (I a 6)]))) : (va_pl L (pF cy K N T I Q J)).set j (a, .inr (6, [.ref (T a 0), .int x, .int (I a 2), .int (I a 3), .int (I a 4), .int (I a 5), .int (I a 6)])) = va_pl L (pF cy K N T (p2 I a 1 x) Q J) := by
  have hs := va_pl_set (X := []) (e := .inr (6, [.ref (T a 0), .int x, .int (I a 2), .int (I a 3), .int (I a 4), .int (I a 5), .int (I a 6)])) hD hL (hj.trans (by rw [pF_6 h]))
  refine hs.trans ?_
  show [] ++ _ = _
  rw [List.nil_append]
  refine va_pl_congr (fun b => ?_)
  by_cases hb : b = a
  · subst hb
    rw [va_up_self, pF_6 h]
    simp [p2, va_up]
  · rw [va_up_ne _ _ hb]
    simp [pF, p2, va_up, hb]
theorem pP_6_2 {cy : Nat → ClassId} {K N : Nat → Nat} {T : Nat → Nat → Nat} {I : Nat → Nat → Int32} {Q : Nat → Nat → Option Nat} {J : Nat → Nat → Int32} {A : Nat → Prop} {L : List Nat} {a j : Nat} {x : Int32} (hD : va_D A (va_pl L (pF cy K N T I Q J))) (hL : a ∈ L) (h : K a = 6) (hj : (va_pl L (pF cy K N T I Q J))[j]? = some (a, .inr (6, [.ref (T a 0), .int (I a 1), .int (I a 2), .int (I a 3), .int (I a 4), .int (I a 5), .int (I a 6)]))) : (va_pl L (pF cy K N T I Q J)).set j (a, .inr (6, [.ref (T a 0), .int (I a 1), .int x, .int (I a 3), .int (I a 4), .int (I a 5), .int (I a 6)])) = va_pl L (pF cy K N T (p2 I a 2 x) Q J) := by
  have hs := va_pl_set (X := []) (e := .inr (6, [.ref (T a 0), .int (I a 1), .int x, .int (I a 3), .int (I a 4), .int (I a 5), .int (I a 6)])) hD hL (hj.trans (by rw [pF_6 h]))
  refine hs.trans ?_
  show [] ++ _ = _
  rw [List.nil_append]
  refine va_pl_congr (fun b => ?_)
  by_cases hb : b = a
  · subst hb
    rw [va_up_self, pF_6 h]
    simp [p2, va_up]
  · rw [va_up_ne _ _ hb]
    simp [pF, p2, va_up, hb]
theorem pP_6_3 {cy : Nat → ClassId} {K N : Nat → Nat} {T : Nat → Nat → Nat} {I : Nat → Nat → Int32} {Q : Nat → Nat → Option Nat} {J : Nat → Nat → Int32} {A : Nat → Prop} {L : List Nat} {a j : Nat} {x : Int32} (hD : va_D A (va_pl L (pF cy K N T I Q J))) (hL : a ∈ L) (h : K a = 6) (hj : (va_pl L (pF cy K N T I Q J))[j]? = some (a, .inr (6, [.ref (T a 0), .int (I a 1), .int (I a 2), .int (I a 3), .int (I a 4), .int (I a 5), .int (I a 6)]))) : (va_pl L (pF cy K N T I Q J)).set j (a, .inr (6, [.ref (T a 0), .int (I a 1), .int (I a 2), .int x, .int (I a 4), .int (I a 5), .int (I a 6)])) = va_pl L (pF cy K N T (p2 I a 3 x) Q J) := by
  have hs := va_pl_set (X := []) (e := .inr (6, [.ref (T a 0), .int (I a 1), .int (I a 2), .int x, .int (I a 4), .int (I a 5), .int (I a 6)])) hD hL (hj.trans (by rw [pF_6 h]))
  refine hs.trans ?_
  show [] ++ _ = _
  rw [List.nil_append]
  refine va_pl_congr (fun b => ?_)
  by_cases hb : b = a
  · subst hb
    rw [va_up_self, pF_6 h]
    simp [p2, va_up]
  · rw [va_up_ne _ _ hb]
    simp [pF, p2, va_up, hb]
theorem pP_6_4 {cy : Nat → ClassId} {K N : Nat → Nat} {T : Nat → Nat → Nat} {I : Nat → Nat → Int32} {Q : Nat → Nat → Option Nat} {J : Nat → Nat → Int32} {A : Nat → Prop} {L : List Nat} {a j : Nat} {x : Int32} (hD : va_D A (va_pl L (pF cy K N T I Q J))) (hL : a ∈ L) (h : K a = 6) (hj : (va_pl L (pF cy K N T I Q J))[j]? = some (a, .inr (6, [.ref (T a 0), .int (I a 1), .int (I a 2), .int (I a 3), .int (I a 4), .int (I a 5), .int (I a 6)]))) : (va_pl L (pF cy K N T I Q J)).set j (a, .inr (6, [.ref (T a 0), .int (I a 1), .int (I a 2), .int (I a 3), .int x, .int (I a 5), .int (I a 6)])) = va_pl L (pF cy K N T (p2 I a 4 x) Q J) := by
  have hs := va_pl_set (X := []) (e := .inr (6, [.ref (T a 0), .int (I a 1), .int (I a 2), .int (I a 3), .int x, .int (I a 5), .int (I a 6)])) hD hL (hj.trans (by rw [pF_6 h]))
  refine hs.trans ?_
  show [] ++ _ = _
  rw [List.nil_append]
  refine va_pl_congr (fun b => ?_)
  by_cases hb : b = a
  · subst hb
    rw [va_up_self, pF_6 h]
    simp [p2, va_up]
  · rw [va_up_ne _ _ hb]
    simp [pF, p2, va_up, hb]
theorem pP_6_5 {cy : Nat → ClassId} {K N : Nat → Nat} {T : Nat → Nat → Nat} {I : Nat → Nat → Int32} {Q : Nat → Nat → Option Nat} {J : Nat → Nat → Int32} {A : Nat → Prop} {L : List Nat} {a j : Nat} {x : Int32} (hD : va_D A (va_pl L (pF cy K N T I Q J))) (hL : a ∈ L) (h : K a = 6) (hj : (va_pl L (pF cy K N T I Q J))[j]? = some (a, .inr (6, [.ref (T a 0), .int (I a 1), .int (I a 2), .int (I a 3), .int (I a 4), .int (I a 5), .int (I a 6)]))) : (va_pl L (pF cy K N T I Q J)).set j (a, .inr (6, [.ref (T a 0), .int (I a 1), .int (I a 2), .int (I a 3), .int (I a 4), .int x, .int (I a 6)])) = va_pl L (pF cy K N T (p2 I a 5 x) Q J) := by
  have hs := va_pl_set (X := []) (e := .inr (6, [.ref (T a 0), .int (I a 1), .int (I a 2), .int (I a 3), .int (I a 4), .int x, .int (I a 6)])) hD hL (hj.trans (by rw [pF_6 h]))
  refine hs.trans ?_
  show [] ++ _ = _
  rw [List.nil_append]
  refine va_pl_congr (fun b => ?_)
  by_cases hb : b = a
  · subst hb
    rw [va_up_self, pF_6 h]
    simp [p2, va_up]
  · rw [va_up_ne _ _ hb]
    simp [pF, p2, va_up, hb]
theorem pP_6_6 {cy : Nat → ClassId} {K N : Nat → Nat} {T : Nat → Nat → Nat} {I : Nat → Nat → Int32} {Q : Nat → Nat → Option Nat} {J : Nat → Nat → Int32} {A : Nat → Prop} {L : List Nat} {a j : Nat} {x : Int32} (hD : va_D A (va_pl L (pF cy K N T I Q J))) (hL : a ∈ L) (h : K a = 6) (hj : (va_pl L (pF cy K N T I Q J))[j]? = some (a, .inr (6, [.ref (T a 0), .int (I a 1), .int (I a 2), .int (I a 3), .int (I a 4), .int (I a 5), .int (I a 6)]))) : (va_pl L (pF cy K N T I Q J)).set j (a, .inr (6, [.ref (T a 0), .int (I a 1), .int (I a 2), .int (I a 3), .int (I a 4), .int (I a 5), .int x])) = va_pl L (pF cy K N T (p2 I a 6 x) Q J) := by
  have hs := va_pl_set (X := []) (e := .inr (6, [.ref (T a 0), .int (I a 1), .int (I a 2), .int (I a 3), .int (I a 4), .int (I a 5), .int x])) hD hL (hj.trans (by rw [pF_6 h]))
  refine hs.trans ?_
  show [] ++ _ = _
  rw [List.nil_append]
  refine va_pl_congr (fun b => ?_)
  by_cases hb : b = a
  · subst hb
    rw [va_up_self, pF_6 h]
    simp [p2, va_up]
  · rw [va_up_ne _ _ hb]
    simp [pF, p2, va_up, hb]
theorem pF_8 {cy : Nat → ClassId} {K N : Nat → Nat} {T : Nat → Nat → Nat} {I : Nat → Nat → Int32} {Q : Nat → Nat → Option Nat} {J : Nat → Nat → Int32} {a : Nat} (h : K a = 8) : pF cy K N T I Q J a = .inl ((cy 8), 60, .inr (.inr (.inr (.inr (Q a))))) := by simp [pF, h]
theorem pG_8 {cy : Nat → ClassId} {K N : Nat → Nat} {T : Nat → Nat → Nat} {I : Nat → Nat → Int32} {Q : Nat → Nat → Option Nat} {J : Nat → Nat → Int32} {L : List Nat} {a : Nat} (hL : a ∈ L) (h : K a = 8) : ∃ j : Nat, (va_pl L (pF cy K N T I Q J))[j]? = some (a, .inl ((cy 8), 60, .inr (.inr (.inr (.inr (Q a)))))) := by
  obtain ⟨j, hj⟩ := va_pl_get (X := []) (f := pF cy K N T I Q J) hL
  exact ⟨j, hj.trans (by rw [pF_8 h])⟩
theorem pS_8 {cy : Nat → ClassId} {K N : Nat → Nat} {T : Nat → Nat → Nat} {I : Nat → Nat → Int32} {Q : Nat → Nat → Option Nat} {J : Nat → Nat → Int32} {A : Nat → Prop} {L : List Nat} {a j i : Nat} {x : Option Nat} (hD : va_D A (va_pl L (pF cy K N T I Q J))) (hL : a ∈ L) (h : K a = 8) (hj : (va_pl L (pF cy K N T I Q J))[j]? = some (a, .inl ((cy 8), 60, .inr (.inr (.inr (.inr (Q a))))))) : (va_pl L (pF cy K N T I Q J)).set j (a, .inl ((cy 8), 60, .inr (.inr (.inr (.inr (va_up (Q a) i x)))))) = va_pl L (pF cy K N T I (p2 Q a i x) J) := by
  have hs := va_pl_set (X := []) (e := .inl ((cy 8), 60, .inr (.inr (.inr (.inr (va_up (Q a) i x)))))) hD hL (hj.trans (by rw [pF_8 h]))
  refine hs.trans ?_
  show [] ++ _ = _
  rw [List.nil_append]
  refine va_pl_congr (fun b => ?_)
  by_cases hb : b = a
  · subst hb
    rw [va_up_self, pF_8 h]
    simp [p2, va_up]
  · rw [va_up_ne _ _ hb]
    simp [pF, p2, va_up, hb]
theorem pF_9 {cy : Nat → ClassId} {K N : Nat → Nat} {T : Nat → Nat → Nat} {I : Nat → Nat → Int32} {Q : Nat → Nat → Option Nat} {J : Nat → Nat → Int32} {a : Nat} (h : K a = 9) : pF cy K N T I Q J a = .inl ((cy 9), 4, .inr (.inr (.inr (.inr (Q a))))) := by simp [pF, h]
theorem pG_9 {cy : Nat → ClassId} {K N : Nat → Nat} {T : Nat → Nat → Nat} {I : Nat → Nat → Int32} {Q : Nat → Nat → Option Nat} {J : Nat → Nat → Int32} {L : List Nat} {a : Nat} (hL : a ∈ L) (h : K a = 9) : ∃ j : Nat, (va_pl L (pF cy K N T I Q J))[j]? = some (a, .inl ((cy 9), 4, .inr (.inr (.inr (.inr (Q a)))))) := by
  obtain ⟨j, hj⟩ := va_pl_get (X := []) (f := pF cy K N T I Q J) hL
  exact ⟨j, hj.trans (by rw [pF_9 h])⟩
theorem pS_9 {cy : Nat → ClassId} {K N : Nat → Nat} {T : Nat → Nat → Nat} {I : Nat → Nat → Int32} {Q : Nat → Nat → Option Nat} {J : Nat → Nat → Int32} {A : Nat → Prop} {L : List Nat} {a j i : Nat} {x : Option Nat} (hD : va_D A (va_pl L (pF cy K N T I Q J))) (hL : a ∈ L) (h : K a = 9) (hj : (va_pl L (pF cy K N T I Q J))[j]? = some (a, .inl ((cy 9), 4, .inr (.inr (.inr (.inr (Q a))))))) : (va_pl L (pF cy K N T I Q J)).set j (a, .inl ((cy 9), 4, .inr (.inr (.inr (.inr (va_up (Q a) i x)))))) = va_pl L (pF cy K N T I (p2 Q a i x) J) := by
  have hs := va_pl_set (X := []) (e := .inl ((cy 9), 4, .inr (.inr (.inr (.inr (va_up (Q a) i x)))))) hD hL (hj.trans (by rw [pF_9 h]))
  refine hs.trans ?_
  show [] ++ _ = _
  rw [List.nil_append]
  refine va_pl_congr (fun b => ?_)
  by_cases hb : b = a
  · subst hb
    rw [va_up_self, pF_9 h]
    simp [p2, va_up]
  · rw [va_up_ne _ _ hb]
    simp [pF, p2, va_up, hb]
theorem pF_10 {cy : Nat → ClassId} {K N : Nat → Nat} {T : Nat → Nat → Nat} {I : Nat → Nat → Int32} {Q : Nat → Nat → Option Nat} {J : Nat → Nat → Int32} {a : Nat} (h : K a = 10) : pF cy K N T I Q J a = .inl ((cy 10), 4, .inr (.inr (.inr (.inr (Q a))))) := by simp [pF, h]
theorem pG_10 {cy : Nat → ClassId} {K N : Nat → Nat} {T : Nat → Nat → Nat} {I : Nat → Nat → Int32} {Q : Nat → Nat → Option Nat} {J : Nat → Nat → Int32} {L : List Nat} {a : Nat} (hL : a ∈ L) (h : K a = 10) : ∃ j : Nat, (va_pl L (pF cy K N T I Q J))[j]? = some (a, .inl ((cy 10), 4, .inr (.inr (.inr (.inr (Q a)))))) := by
  obtain ⟨j, hj⟩ := va_pl_get (X := []) (f := pF cy K N T I Q J) hL
  exact ⟨j, hj.trans (by rw [pF_10 h])⟩
theorem pS_10 {cy : Nat → ClassId} {K N : Nat → Nat} {T : Nat → Nat → Nat} {I : Nat → Nat → Int32} {Q : Nat → Nat → Option Nat} {J : Nat → Nat → Int32} {A : Nat → Prop} {L : List Nat} {a j i : Nat} {x : Option Nat} (hD : va_D A (va_pl L (pF cy K N T I Q J))) (hL : a ∈ L) (h : K a = 10) (hj : (va_pl L (pF cy K N T I Q J))[j]? = some (a, .inl ((cy 10), 4, .inr (.inr (.inr (.inr (Q a))))))) : (va_pl L (pF cy K N T I Q J)).set j (a, .inl ((cy 10), 4, .inr (.inr (.inr (.inr (va_up (Q a) i x)))))) = va_pl L (pF cy K N T I (p2 Q a i x) J) := by
  have hs := va_pl_set (X := []) (e := .inl ((cy 10), 4, .inr (.inr (.inr (.inr (va_up (Q a) i x)))))) hD hL (hj.trans (by rw [pF_10 h]))
  refine hs.trans ?_
  show [] ++ _ = _
  rw [List.nil_append]
  refine va_pl_congr (fun b => ?_)
  by_cases hb : b = a
  · subst hb
    rw [va_up_self, pF_10 h]
    simp [p2, va_up]
  · rw [va_up_ne _ _ hb]
    simp [pF, p2, va_up, hb]
theorem pF_11 {cy : Nat → ClassId} {K N : Nat → Nat} {T : Nat → Nat → Nat} {I : Nat → Nat → Int32} {Q : Nat → Nat → Option Nat} {J : Nat → Nat → Int32} {a : Nat} (h : K a = 11) : pF cy K N T I Q J a = .inl ((cy 11), 6, .inr (.inr (.inr (.inr (Q a))))) := by simp [pF, h]
theorem pG_11 {cy : Nat → ClassId} {K N : Nat → Nat} {T : Nat → Nat → Nat} {I : Nat → Nat → Int32} {Q : Nat → Nat → Option Nat} {J : Nat → Nat → Int32} {L : List Nat} {a : Nat} (hL : a ∈ L) (h : K a = 11) : ∃ j : Nat, (va_pl L (pF cy K N T I Q J))[j]? = some (a, .inl ((cy 11), 6, .inr (.inr (.inr (.inr (Q a)))))) := by
  obtain ⟨j, hj⟩ := va_pl_get (X := []) (f := pF cy K N T I Q J) hL
  exact ⟨j, hj.trans (by rw [pF_11 h])⟩
theorem pS_11 {cy : Nat → ClassId} {K N : Nat → Nat} {T : Nat → Nat → Nat} {I : Nat → Nat → Int32} {Q : Nat → Nat → Option Nat} {J : Nat → Nat → Int32} {A : Nat → Prop} {L : List Nat} {a j i : Nat} {x : Option Nat} (hD : va_D A (va_pl L (pF cy K N T I Q J))) (hL : a ∈ L) (h : K a = 11) (hj : (va_pl L (pF cy K N T I Q J))[j]? = some (a, .inl ((cy 11), 6, .inr (.inr (.inr (.inr (Q a))))))) : (va_pl L (pF cy K N T I Q J)).set j (a, .inl ((cy 11), 6, .inr (.inr (.inr (.inr (va_up (Q a) i x)))))) = va_pl L (pF cy K N T I (p2 Q a i x) J) := by
  have hs := va_pl_set (X := []) (e := .inl ((cy 11), 6, .inr (.inr (.inr (.inr (va_up (Q a) i x)))))) hD hL (hj.trans (by rw [pF_11 h]))
  refine hs.trans ?_
  show [] ++ _ = _
  rw [List.nil_append]
  refine va_pl_congr (fun b => ?_)
  by_cases hb : b = a
  · subst hb
    rw [va_up_self, pF_11 h]
    simp [p2, va_up]
  · rw [va_up_ne _ _ hb]
    simp [pF, p2, va_up, hb]
theorem pF_12 {cy : Nat → ClassId} {K N : Nat → Nat} {T : Nat → Nat → Nat} {I : Nat → Nat → Int32} {Q : Nat → Nat → Option Nat} {J : Nat → Nat → Int32} {a : Nat} (h : K a = 12) : pF cy K N T I Q J a = .inl ((cy 12), 5, .inr (.inr (.inr (.inr (Q a))))) := by simp [pF, h]
theorem pG_12 {cy : Nat → ClassId} {K N : Nat → Nat} {T : Nat → Nat → Nat} {I : Nat → Nat → Int32} {Q : Nat → Nat → Option Nat} {J : Nat → Nat → Int32} {L : List Nat} {a : Nat} (hL : a ∈ L) (h : K a = 12) : ∃ j : Nat, (va_pl L (pF cy K N T I Q J))[j]? = some (a, .inl ((cy 12), 5, .inr (.inr (.inr (.inr (Q a)))))) := by
  obtain ⟨j, hj⟩ := va_pl_get (X := []) (f := pF cy K N T I Q J) hL
  exact ⟨j, hj.trans (by rw [pF_12 h])⟩
theorem pS_12 {cy : Nat → ClassId} {K N : Nat → Nat} {T : Nat → Nat → Nat} {I : Nat → Nat → Int32} {Q : Nat → Nat → Option Nat} {J : Nat → Nat → Int32} {A : Nat → Prop} {L : List Nat} {a j i : Nat} {x : Option Nat} (hD : va_D A (va_pl L (pF cy K N T I Q J))) (hL : a ∈ L) (h : K a = 12) (hj : (va_pl L (pF cy K N T I Q J))[j]? = some (a, .inl ((cy 12), 5, .inr (.inr (.inr (.inr (Q a))))))) : (va_pl L (pF cy K N T I Q J)).set j (a, .inl ((cy 12), 5, .inr (.inr (.inr (.inr (va_up (Q a) i x)))))) = va_pl L (pF cy K N T I (p2 Q a i x) J) := by
  have hs := va_pl_set (X := []) (e := .inl ((cy 12), 5, .inr (.inr (.inr (.inr (va_up (Q a) i x)))))) hD hL (hj.trans (by rw [pF_12 h]))
  refine hs.trans ?_
  show [] ++ _ = _
  rw [List.nil_append]
  refine va_pl_congr (fun b => ?_)
  by_cases hb : b = a
  · subst hb
    rw [va_up_self, pF_12 h]
    simp [p2, va_up]
  · rw [va_up_ne _ _ hb]
    simp [pF, p2, va_up, hb]
theorem pF_7 {cy : Nat → ClassId} {K N : Nat → Nat} {T : Nat → Nat → Nat} {I : Nat → Nat → Int32} {Q : Nat → Nat → Option Nat} {J : Nat → Nat → Int32} {a : Nat} (h : K a = 7) : pF cy K N T I Q J a = .inl ((cy 7), (N a), .inl (J a)) := by simp [pF, h]
theorem pG_7 {cy : Nat → ClassId} {K N : Nat → Nat} {T : Nat → Nat → Nat} {I : Nat → Nat → Int32} {Q : Nat → Nat → Option Nat} {J : Nat → Nat → Int32} {L : List Nat} {a : Nat} (hL : a ∈ L) (h : K a = 7) : ∃ j : Nat, (va_pl L (pF cy K N T I Q J))[j]? = some (a, .inl ((cy 7), (N a), .inl (J a))) := by
  obtain ⟨j, hj⟩ := va_pl_get (X := []) (f := pF cy K N T I Q J) hL
  exact ⟨j, hj.trans (by rw [pF_7 h])⟩
theorem pS_7 {cy : Nat → ClassId} {K N : Nat → Nat} {T : Nat → Nat → Nat} {I : Nat → Nat → Int32} {Q : Nat → Nat → Option Nat} {J : Nat → Nat → Int32} {A : Nat → Prop} {L : List Nat} {a j i : Nat} {x : Int32} (hD : va_D A (va_pl L (pF cy K N T I Q J))) (hL : a ∈ L) (h : K a = 7) (hj : (va_pl L (pF cy K N T I Q J))[j]? = some (a, .inl ((cy 7), (N a), .inl (J a)))) : (va_pl L (pF cy K N T I Q J)).set j (a, .inl ((cy 7), (N a), .inl (upd (J a) i x))) = va_pl L (pF cy K N T I Q (va_up J a (upd (J a) i x))) := by
  have hs := va_pl_set (X := []) (e := .inl ((cy 7), (N a), .inl (upd (J a) i x))) hD hL (hj.trans (by rw [pF_7 h]))
  refine hs.trans ?_
  show [] ++ _ = _
  rw [List.nil_append]
  refine va_pl_congr (fun b => ?_)
  by_cases hb : b = a
  · subst hb
    rw [va_up_self, pF_7 h]
    simp [p2, va_up]
  · rw [va_up_ne _ _ hb]
    simp [pF, p2, va_up, hb]
end
section
/-! the class at any time: what lies where, and of what kind -/
/-- the kind of the cell v k: the object, its three rows, six producers, four groups, their offsets -/
def xK (k : Nat) : Nat := if k = 0 then 5 else if k = 1 then 10 else if k = 2 then 11 else if k = 3 then 9 else if k < 10 then 3 else if k < 14 then 1 else 7
def CT (v : Nat → Nat) (L : List Nat) (K N : Nat → Nat) (T : Nat → Nat → Nat) (I : Nat → Nat → Int32) (Q : Nat → Nat → Option Nat) : Prop :=
  ((∀ k, k < 18 → v k ∈ L ∧ K (v k) = xK k) ∧ (∀ i j, i < 18 → j < 18 → v i = v j → i = j) ∧ (T (v 0) 0 = v 1 ∧ T (v 0) 1 = v 2 ∧ T (v 0) 2 = v 3) ∧ (∀ j, j < 4 → T (v (10 + j)) 2 = v (14 + j) ∧ N (v (14 + j)) = 4)) ∧
  ((∀ j, j < 6 → Q (v 2) j = some (v (4 + j))) ∧ (∀ j, j < 4 → Q (v 3) j = some (v (10 + j)))) ∧
  (∀ b, Q (v 0) 5 = some b → b ∈ L ∧ K b = 0) ∧
  (∀ j b, j < 4 → Q (v 1) j = some b → b ∈ L ∧ K b = 2) ∧
  (∀ a, a ∈ L → K a = 2 → T a 2 ∈ L ∧ K (T a 2) = 12) ∧
  (∀ a, a ∈ L → K a = 12 → ∀ j b, j < 5 → Q a j = some b → b ∈ L ∧ K b = 4) ∧
  (∀ a, a ∈ L → K a = 4 → T a 0 ∈ L ∧ K (T a 0) = 8) ∧
  (∀ a, a ∈ L → K a = 4 → 0 ≤ (I a 1).toInt) ∧
  (∀ a, a ∈ L → K a = 8 → ∀ j b, j < 60 → Q a j = some b → b ∈ L ∧ K b = 0)
/-- the simple state is as it was: up, generations, members, rounds, positions, which partitions are there -/
def RS (v : Nat → Nat) (I : Nat → Nat → Int32) (Q : Nat → Nat → Option Nat) (J : Nat → Nat → Int32) (I' : Nat → Nat → Int32) (Q' : Nat → Nat → Option Nat) (J' : Nat → Nat → Int32) : Prop :=
  I' (v 0) 3 = I (v 0) 3 ∧ (∀ k, k < 6 → I' (v (4 + k)) 1 = I (v (4 + k)) 1) ∧ (∀ g, g < 4 → I' (v (10 + g)) 0 = I (v (10 + g)) 0 ∧ I' (v (10 + g)) 1 = I (v (10 + g)) 1) ∧ (∀ g p, g < 4 → p < 4 → J' (v (14 + g)) p = J (v (14 + g)) p) ∧ (∀ p, p < 4 → Q' (v 1) p = Q (v 1) p)
theorem RS.rf {v : Nat → Nat} {I : Nat → Nat → Int32} {Q : Nat → Nat → Option Nat} {J : Nat → Nat → Int32} : RS v I Q J I Q J := ⟨rfl, fun _ _ => rfl, fun _ _ => ⟨rfl, rfl⟩, fun _ _ _ _ => rfl, fun _ _ => rfl⟩
theorem RS.trans {v : Nat → Nat} {I I1 I2 : Nat → Nat → Int32} {Q Q1 Q2 : Nat → Nat → Option Nat} {J J1 J2 : Nat → Nat → Int32} (h : RS v I Q J I1 Q1 J1) (h2 : RS v I1 Q1 J1 I2 Q2 J2) : RS v I Q J I2 Q2 J2 :=
  ⟨h2.1.trans h.1, fun k hk => (h2.2.1 k hk).trans (h.2.1 k hk), fun g hg => ⟨(h2.2.2.1 g hg).1.trans (h.2.2.1 g hg).1, (h2.2.2.1 g hg).2.trans (h.2.2.1 g hg).2⟩, fun g p hg hp => (h2.2.2.2.1 g p hg hp).trans (h.2.2.2.1 g p hg hp), fun p hp => (h2.2.2.2.2 p hp).trans (h.2.2.2.2 p hp)⟩
section XI
variable {v : Nat → Nat} {L : List Nat} {K N : Nat → Nat} {T : Nat → Nat → Nat} {I : Nat → Nat → Int32} {Q : Nat → Nat → Option Nat} {J : Nat → Nat → Int32}
theorem CT.at (h : CT v L K N T I Q) (k : Nat) (hk : k < 18) : v k ∈ L := (h.1.1 k hk).1
theorem CT.k (h : CT v L K N T I Q) (k : Nat) (hk : k < 18) {x : Nat} (hx : xK k = x) : K (v k) = x := (h.1.1 k hk).2.trans hx
theorem CT.kp (h : CT v L K N T I Q) {j : Nat} (hj : j < 6) : v (4 + j) ∈ L ∧ K (v (4 + j)) = 3 := by
  refine ⟨(h.1.1 (4 + j) (by omega)).1, (h.1.1 (4 + j) (by omega)).2.trans ?_⟩
  unfold xK
  rw [if_neg (by omega), if_neg (by omega), if_neg (by omega), if_neg (by omega), if_pos (by omega)]
theorem CT.kg (h : CT v L K N T I Q) {j : Nat} (hj : j < 4) : v (10 + j) ∈ L ∧ K (v (10 + j)) = 1 := by
  refine ⟨(h.1.1 (10 + j) (by omega)).1, (h.1.1 (10 + j) (by omega)).2.trans ?_⟩
  unfold xK
  rw [if_neg (by omega), if_neg (by omega), if_neg (by omega), if_neg (by omega), if_neg (by omega), if_pos (by omega)]
theorem CT.ko (h : CT v L K N T I Q) {j : Nat} (hj : j < 4) : v (14 + j) ∈ L ∧ K (v (14 + j)) = 7 := by
  refine ⟨(h.1.1 (14 + j) (by omega)).1, (h.1.1 (14 + j) (by omega)).2.trans ?_⟩
  unfold xK
  rw [if_neg (by omega), if_neg (by omega), if_neg (by omega), if_neg (by omega), if_neg (by omega), if_neg (by omega)]
/-- an int field of anything but a Replica's start -/
theorem CT.pi (h : CT v L K N T I Q) {a f : Nat} {x : Int32} (hf : ¬ (K a = 4 ∧ f = 1)) : CT v L K N T (p2 I a f x) Q := by
  obtain ⟨h1, h2, h3, h4, h5, h6, h7, h8, h9⟩ := h
  refine ⟨h1, h2, h3, h4, h5, h6, h7, fun b hb hk => ?_, h9⟩
  rw [p2_ne _ _ (fun q => hf ⟨by rw [← q.1]; exact hk, q.2.symm⟩)]
  exact h8 b hb hk
/-- a Replica's start, not below 0 -/
theorem CT.ps (h : CT v L K N T I Q) {a : Nat} {x : Int32} (hx : 0 ≤ x.toInt) : CT v L K N T (p2 I a 1 x) Q := by
  obtain ⟨h1, h2, h3, h4, h5, h6, h7, h8, h9⟩ := h
  refine ⟨h1, h2, h3, h4, h5, h6, h7, fun b hb hk => ?_, h9⟩
  by_cases hba : b = a
  · subst hba; rw [p2_at]; exact hx
  · rw [p2_na _ _ hba]; exact h8 b hb hk
/-- a place of an Entry[] gets an Entry or null -/
theorem CT.q8 (h : CT v L K N T I Q) {a i : Nat} {y : Option Nat} (ha : K a = 8) (hy : ∀ b, y = some b → b ∈ L ∧ K b = 0) : CT v L K N T I (p2 Q a i y) := by
  obtain ⟨h1, h2, h3, h4, h5, h6, h7, h8, h9⟩ := h
  have nv : ∀ k, k < 18 → ¬ v k = a := fun k hk q => by
    have e := (h1.1 k hk).2
    rw [q, ha] at e
    unfold xK at e
    repeat' split at e
    all_goals omega
  refine ⟨h1, ⟨fun j hj => ?_, fun j hj => ?_⟩, fun b hb => ?_, fun j b hj hb => ?_, h5, fun c hc hk j b hj hb => ?_, h7, h8, fun c hc hk j b hj hb => ?_⟩
  · rw [p2_na _ _ (nv 2 (by decide))]; exact h2.1 j hj
  · rw [p2_na _ _ (nv 3 (by decide))]; exact h2.2 j hj
  · rw [p2_na _ _ (nv 0 (by decide))] at hb; exact h3 b hb
  · rw [p2_na _ _ (nv 1 (by decide))] at hb; exact h4 j b hj hb
  · have hca : ¬ c = a := fun q => by rw [q, ha] at hk; omega
    rw [p2_na _ _ hca] at hb
    exact h6 c hc hk j b hj hb
  · by_cases hca : c = a
    · subst hca
      by_cases hji : j = i
      · subst hji; rw [p2_at] at hb; exact hy b hb
      · rw [p2_ne _ _ (fun q => hji q.2)] at hb; exact h9 c hc hk j b hj hb
    · rw [p2_na _ _ hca] at hb; exact h9 c hc hk j b hj hb
/-- lastSeen gets an Entry -/
theorem CT.q5 (h : CT v L K N T I Q) {y : Option Nat} (hy : ∀ b, y = some b → b ∈ L ∧ K b = 0) : CT v L K N T I (p2 Q (v 0) 5 y) := by
  obtain ⟨h1, h2, h3, h4, h5, h6, h7, h8, h9⟩ := h
  have nv : ∀ k, k < 18 → ¬ k = 0 → ¬ v k = v 0 := fun k hk h0 q => h0 (h1.2.1 k 0 hk (by decide) q)
  have kv : K (v 0) = 5 := (h1.1 0 (by decide)).2
  refine ⟨h1, ⟨fun j hj => ?_, fun j hj => ?_⟩, fun b hb => ?_, fun j b hj hb => ?_, h5, fun c hc hk j b hj hb => ?_, h7, h8, fun c hc hk j b hj hb => ?_⟩
  · rw [p2_na _ _ (nv 2 (by decide) (by decide))]; exact h2.1 j hj
  · rw [p2_na _ _ (nv 3 (by decide) (by decide))]; exact h2.2 j hj
  · rw [p2_at] at hb; exact hy b hb
  · rw [p2_na _ _ (nv 1 (by decide) (by decide))] at hb; exact h4 j b hj hb
  · have hca : ¬ c = v 0 := fun q => by rw [q, kv] at hk; omega
    rw [p2_na _ _ hca] at hb
    exact h6 c hc hk j b hj hb
  · have hca : ¬ c = v 0 := fun q => by rw [q, kv] at hk; omega
    rw [p2_na _ _ hca] at hb
    exact h9 c hc hk j b hj hb
/-- an int field that is none of the simple state's -/
theorem RS.pi (hC : CT v L K N T I Q) {I0 : Nat → Nat → Int32} {Q0 : Nat → Nat → Option Nat} {J0 : Nat → Nat → Int32} (h : RS v I0 Q0 J0 I Q J) {a f : Nat} {x : Int32} (hf : ¬ (K a = 5 ∧ f = 3) ∧ ¬ (K a = 3 ∧ f = 1) ∧ ¬ (K a = 1 ∧ (f = 0 ∨ f = 1))) : RS v I0 Q0 J0 (p2 I a f x) Q J := by
  obtain ⟨h1, h2, h3, h4, h5⟩ := h
  refine ⟨?_, fun k hk => ?_, fun g hg => ⟨?_, ?_⟩, h4, h5⟩
  · rw [p2_ne _ _ (fun q => hf.1 ⟨by rw [← q.1]; exact hC.k 0 (by decide) rfl, q.2.symm⟩)]; exact h1
  · rw [p2_ne _ _ (fun q => hf.2.1 ⟨by rw [← q.1]; exact (hC.kp hk).2, q.2.symm⟩)]; exact h2 k hk
  · rw [p2_ne _ _ (fun q => hf.2.2 ⟨by rw [← q.1]; exact (hC.kg hg).2, Or.inl q.2.symm⟩)]; exact (h3 g hg).1
  · rw [p2_ne _ _ (fun q => hf.2.2 ⟨by rw [← q.1]; exact (hC.kg hg).2, Or.inr q.2.symm⟩)]; exact (h3 g hg).2
theorem RS.pq (hC : CT v L K N T I Q) {I0 : Nat → Nat → Int32} {Q0 : Nat → Nat → Option Nat} {J0 : Nat → Nat → Int32} (h : RS v I0 Q0 J0 I Q J) {a f : Nat} {y : Option Nat} (hf : ¬ K a = 10) : RS v I0 Q0 J0 I (p2 Q a f y) J := by
  obtain ⟨h1, h2, h3, h4, h5⟩ := h
  refine ⟨h1, h2, h3, h4, fun p hp => ?_⟩
  rw [p2_na _ _ (fun q => hf (by rw [← q]; exact hC.k 1 (by decide) rfl))]
  exact h5 p hp
end XI
end
section
/-! contracts over the pool: their start -/
abbrev pTy (cy : Nat → ClassId) : List (ClassId × FieldType) := [(cy 7, .int), (cy 8, .object "TallyLogs$Entry"), (cy 9, .object "TallyLogs$Group"), (cy 10, .object "TallyLogs$Partition"), (cy 11, .object "TallyLogs$Producer"), (cy 12, .object "TallyLogs$Replica")]
/-- words that no list holds: links across the nest, arrays that are made -/
def xN (U : State) : Prop := va_Nw (.methodLinkNest RX1 28 yX5_contains "TallyLogs") U ∧ va_Nw (.methodLinkNest RX2 30 yX5_leastOf "TallyLogs") U ∧ va_Nw (.methodLinkNest RX2 37 yX5_contains "TallyLogs") U ∧ va_AO "TallyLogs$Replica" U ∧ va_AO "TallyLogs$Entry" U
theorem xN.same {U : State} {g : JFrame} {mk : MethodId} {a : Array Value} (h : xN U) : xN (U.calling g mk a) := ⟨va_Nw.same rfl (rfl : U.vm = (U.calling g mk a).vm) h.1, va_Nw.same rfl (rfl : U.vm = (U.calling g mk a).vm) h.2.1, va_Nw.same rfl (rfl : U.vm = (U.calling g mk a).vm) h.2.2.1, va_AO.moved (u := U) (U := U.calling g mk a) (Vm.Alike.refl U.vm) h.2.2.2.1, va_AO.moved (u := U) (U := U.calling g mk a) (Vm.Alike.refl U.vm) h.2.2.2.2⟩
theorem xN.warm {s U : State} (hW : s.WarmedH U.vm) (h : xN s) : xN U := ⟨va_Nw.warmM hW h.1, va_Nw.warmM hW h.2.1, va_Nw.warmM hW h.2.2.1, va_AO.moved hW.alike h.2.2.2.1, va_AO.moved hW.alike h.2.2.2.2⟩
abbrev pB (dC : Nat → ClassId) (dI : Nat → Nat → Nat) (cy : Nat → ClassId) (L : List Nat) (F : Nat → va_E) (U : State) : Prop := va_P (dC, dI) vwCl (va_pl L F) U.heap ∧ va_K (dC, dI) vwCl (pTy cy) U ∧ xN U
theorem pb_blind {dC : Nat → ClassId} {dI : Nat → Nat → Nat} {cy : Nat → ClassId} {L : List Nat} {F : Nat → va_E} {av : List Value} : FrameBlind (va_Pc av (pB dC dI cy L F)) := fun a U g mk q => by
  obtain ⟨q0, qP, qK, qN⟩ := q
  exact ⟨q0, qP, va_K.moved (u := U) (U := U.calling g mk a) (Vm.Alike.refl U.vm) qK, qN.same⟩
theorem pb_pre {dC : Nat → ClassId} {dI : Nat → Nat → Nat} {cy : Nat → ClassId} {L : List Nat} {F : Nat → va_E} {s U : State} {H : Heap} (hP : va_P (dC, dI) vwCl (va_pl L F) H) (hK : va_K (dC, dI) vwCl (pTy cy) s) (hN : xN s) (hU : U.heap = H) (hW : s.WarmedH U.vm) : pB dC dI cy L F U := ⟨by rw [hU]; exact hP, va_K.moved hW.alike hK, hN.warm hW⟩
/-- a contract that writes, but makes nothing: its start -/
abbrev pW (dC : Nat → ClassId) (dI : Nat → Nat → Nat) (cy : Nat → ClassId) (L : List Nat) (F : Nat → va_E) (sz : Nat) (U : State) : Prop := U.heap.size = sz ∧ pB dC dI cy L F U ∧ va_D (fun _ => True) (va_pl L F)
theorem pw_blind {dC : Nat → ClassId} {dI : Nat → Nat → Nat} {cy : Nat → ClassId} {L : List Nat} {F : Nat → va_E} {sz : Nat} {av : List Value} : FrameBlind (va_Pc av (pW dC dI cy L F sz)) := fun a U g mk q => by
  obtain ⟨q0, q1, ⟨qP, qK, qN⟩, qD⟩ := q
  exact ⟨q0, q1, ⟨qP, va_K.moved (u := U) (U := U.calling g mk a) (Vm.Alike.refl U.vm) qK, qN.same⟩, qD⟩
theorem pw_pre {dC : Nat → ClassId} {dI : Nat → Nat → Nat} {cy : Nat → ClassId} {L : List Nat} {F : Nat → va_E} {A : Nat → Prop} {s U : State} {H : Heap} (hP : va_P (dC, dI) vwCl (va_pl L F) H) (hK : va_K (dC, dI) vwCl (pTy cy) s) (hN : xN s) (hD : va_D A (va_pl L F)) (hU : U.heap = H) (hW : s.WarmedH U.vm) : pW dC dI cy L F H.size U := ⟨by rw [hU], pb_pre hP hK hN hU hW, hD.weaken (fun _ _ _ _ => trivial)⟩
theorem pfree {A : Nat → Prop} {a : va_W} {H0 H : Heap} {locs : List Loc} (hD : va_D A a) (hS : va_S A H0 H locs) (hA : ∀ q, H0.size ≤ q → A q) : ∀ q, va_A a H.size q → A q := by
  intro q h
  rcases h with ⟨k, e, h⟩ | h
  · exact hD.2 k (q, e) h
  · exact hA q (Nat.le_trans hS.1 h)
end
section
set_option maxHeartbeats 4000000 in
set_option maxRecDepth 100000 in
/-- Math.floorMod(x, 60) -/
theorem c_J9_floorMod_7cf53 (l : Launch) (ix : Int32) : Met l yJ9_floorMod_7cf53 wsJ9_floorMod_7cf53 ({ frames := 0, cells := 0, slots := 0, locals := 0 }) (fun v _ => v = ([.int ix, .int 60] : List Value).toArray) (vp_Si (fun r => r = sp_fm ix)) 0 0 (fun _ => False) := by
  refine va_MetF (cc := cJ9_floorMod_7cf53) (maxL := 3) (ret := (some .int)) (by decide +kernel) rfl ?_
  intro p e s m args below meth c s₁ B hml hv
  subst hv
  have hx := B.exec
  have hb := B.bytes
  have hr := B.returns
  have hts := atoms_spec (ws := wsJ9_floorMod_7cf53) B.pre
  have hown : s.vm.findClass RJ9 = some m.cls := findClass_of_methodNamed B.named
  have hlocks := B.notSynchronized
  have hl := lv_entry ([.int ix, .int 60]) (n := 3) (Nat.le_of_ble_eq_true rfl)
  rw [lg_entry_eq]
  generalize (lg_sl ([.int ix, .int 60]) ++ List.replicate (3 - (lg_sl ([.int ix, .int 60])).length) Slot.unset).toArray = ls at hl ⊢
  have hl : lv_has ls 3 [(0, .int ix), (1, .int 60)] := hl
  refine lv_iload_n hx hb dJ9_floorMod_7cf53_0 rfl (lv_at hl 0 rfl) ?_
  refine lv_iload_n hx hb dJ9_floorMod_7cf53_1 rfl (lv_at hl 1 rfl) ?_
  refine lv_irem hx hb dJ9_floorMod_7cf53_2 (by decide) ?_
  refine lv_topi (fun v1 ev1 => ?_)
  refine lv_istore_n (lv' := [(2, .int v1), (0, .int ix), (1, .int 60)]) hx hb dJ9_floorMod_7cf53_3 rfl hl (by decide) rfl (fun ls hl => ?_)
  refine lv_iload_n hx hb dJ9_floorMod_7cf53_4 rfl (lv_at hl 1 rfl) ?_
  refine lv_iload_n hx hb dJ9_floorMod_7cf53_5 rfl (lv_at hl 2 rfl) ?_
  refine lv_ixor hx hb dJ9_floorMod_7cf53_6 ?_
  refine lv_topi (fun v2 ev2 => ?_)
  refine lv_if_ge (tgt := 18) hx hb dJ9_floorMod_7cf53_7 (by decide) (fun c3 => ?_) (fun c3 => ?_)
  · refine lv_iload_n hx hb dJ9_floorMod_7cf53_18 rfl (lv_at hl 0 rfl) ?_
    exact W.iret (v := v1) hx hb hr (fun t ht hW => ⟨v1, rfl, by subst ev1; subst ev2; rw [sp_fm, if_pos c3], ht⟩) (fun _ h => by cases h) dJ9_floorMod_7cf53_19
  · refine lv_iload_n hx hb dJ9_floorMod_7cf53_10 rfl (lv_at hl 0 rfl) ?_
    refine lv_if_eq (tgt := 18) hx hb dJ9_floorMod_7cf53_11 (by decide) (fun c4 => ?_) (fun c4 => ?_)
    · refine lv_iload_n hx hb dJ9_floorMod_7cf53_18 rfl (lv_at hl 0 rfl) ?_
      exact W.iret (v := v1) hx hb hr (fun t ht hW => ⟨v1, rfl, by subst ev1; subst ev2; rw [sp_fm, if_neg c3, if_pos c4], ht⟩) (fun _ h => by cases h) dJ9_floorMod_7cf53_19
    · refine lv_iload_n hx hb dJ9_floorMod_7cf53_14 rfl (lv_at hl 0 rfl) ?_
      refine lv_iload_n hx hb dJ9_floorMod_7cf53_15 rfl (lv_at hl 2 rfl) ?_
      refine lv_iadd hx hb dJ9_floorMod_7cf53_16 ?_
      refine lv_topi (fun v5 ev5 => ?_)
      exact W.iret (v := v5) hx hb hr (fun t ht hW => ⟨v5, rfl, by subst ev1; subst ev2; subst ev5; rw [sp_fm, if_neg c3, if_neg c4], ht⟩) (fun _ h => by cases h) dJ9_floorMod_7cf53_17
set_option maxHeartbeats 4000000 in
set_option maxRecDepth 100000 in
/-- Entry.isDataBy -/
theorem c_X0_isDataBy (l : Launch) (dC : Nat → ClassId) (dI : Nat → Nat → Nat) (cy : Nat → ClassId) (v : Nat → Nat) (L : List Nat) (K N : Nat → Nat) (T : Nat → Nat → Nat) (I : Nat → Nat → Int32) (Q : Nat → Nat → Option Nat) (J : Nat → Nat → Int32) (a : Nat) (ka : Int32) (kb : Int32) (hC : CT v L K N T I Q) (ha : a ∈ L) (hk : K a = 0) : Met l yX0_isDataBy wsX0_isDataBy ({ frames := 0, cells := 0, slots := 0, locals := 0 }) (va_Pc [.ref a, .int ka, .int kb] (pB dC dI cy L (pF cy K N T I Q J))) (vp_Si (fun r => True)) 0 0 (fun _ => False) := by
  refine Met.ofW (cc := cX0_isDataBy) (maxL := 3) (ret := (some .boolean)) (by decide) rfl ?_
  intro p e s m args below meth c s₁ B hml hv
  obtain ⟨rfl, hP, hK, hN⟩ := hv
  have hx := B.exec
  have hb := B.bytes
  have hr := B.returns
  have hts := atoms_spec (ws := wsX0_isDataBy) B.pre
  have hown : s.vm.findClass RX0 = some m.cls := findClass_of_methodNamed B.named
  have hlocks := B.notSynchronized
  have hi0 : ∀ w ∈ wsX00, w ∈ wsX0_isDataBy := by decide +kernel
  have hl := lv_entry ([.ref a, .int ka, .int kb]) (n := 3) (Nat.le_of_ble_eq_true rfl)
  rw [lg_entry_eq]
  generalize (lg_sl ([.ref a, .int ka, .int kb]) ++ List.replicate (3 - (lg_sl ([.ref a, .int ka, .int kb])).length) Slot.unset).toArray = ls at hl ⊢
  have hl : lv_has ls 3 [(0, .ref a), (1, .int ka), (2, .int kb)] := hl
  have hn28 := hN.1
  have hn30 := hN.2.1
  have hn37 := hN.2.2.1
  refine lv_aload_n hx hb dX0_isDataBy_0 rfl (lv_at hl 0 rfl) ?_
  obtain ⟨j6, hj6⟩ := pG_0 (cy := cy) (N := N) (T := T) (I := I) (Q := Q) (J := J) ha hk
  refine va_get (D := (dC, dI)) (ci := 0) (v := .int (I a 1)) (C := RX0) (T := TX0) (N := 8) hx hb hts hi0 hown hK hP j6 hj6 rfl 1 (by decide) (hts (.fieldLink RX0 15 "TallyLogs$Entry" "kind" "I") (by decide +kernel)) (fun _ h9 => h9) rfl dX0_isDataBy_1 ?_
  refine lv_topi (fun x7 ex7 => ?_)
  refine lv_if_ne (tgt := 27) hx hb dX0_isDataBy_4 (by decide) (fun c8 => ?_) (fun c8 => ?_)
  · refine lv_iconst (v := 0) hx hb dX0_isDataBy_27 (by decide) ?_
    exact W.zret (v := 0) hx hb hr (by decide) (fun t ht hW => ⟨0, rfl, trivial, ht⟩) (fun _ h => by cases h) dX0_isDataBy_28
  · refine lv_aload_n hx hb dX0_isDataBy_7 rfl (lv_at hl 0 rfl) ?_
    obtain ⟨j9, hj9⟩ := pG_0 (cy := cy) (N := N) (T := T) (I := I) (Q := Q) (J := J) ha hk
    refine va_get (D := (dC, dI)) (ci := 0) (v := .int (I a 2)) (C := RX0) (T := TX0) (N := 8) hx hb hts hi0 hown hK hP j9 hj9 rfl 2 (by decide) (hts (.fieldLink RX0 18 "TallyLogs$Entry" "producer" "I") (by decide +kernel)) (fun _ h9 => h9) rfl dX0_isDataBy_8 ?_
    refine lv_topi (fun x10 ex10 => ?_)
    refine lv_iload_n hx hb dX0_isDataBy_11 rfl (lv_at hl 1 rfl) ?_
    refine lv_icmp_ne (tgt := 27) hx hb dX0_isDataBy_12 (by decide) (fun c11 => ?_) (fun c11 => ?_)
    · refine lv_iconst (v := 0) hx hb dX0_isDataBy_27 (by decide) ?_
      exact W.zret (v := 0) hx hb hr (by decide) (fun t ht hW => ⟨0, rfl, trivial, ht⟩) (fun _ h => by cases h) dX0_isDataBy_28
    · refine lv_aload_n hx hb dX0_isDataBy_15 rfl (lv_at hl 0 rfl) ?_
      obtain ⟨j12, hj12⟩ := pG_0 (cy := cy) (N := N) (T := T) (I := I) (Q := Q) (J := J) ha hk
      refine va_get (D := (dC, dI)) (ci := 0) (v := .int (I a 3)) (C := RX0) (T := TX0) (N := 8) hx hb hts hi0 hown hK hP j12 hj12 rfl 3 (by decide) (hts (.fieldLink RX0 21 "TallyLogs$Entry" "generation" "I") (by decide +kernel)) (fun _ h9 => h9) rfl dX0_isDataBy_16 ?_
      refine lv_topi (fun x13 ex13 => ?_)
      refine lv_iload_n hx hb dX0_isDataBy_19 rfl (lv_at hl 2 rfl) ?_
      refine lv_icmp_ne (tgt := 27) hx hb dX0_isDataBy_20 (by decide) (fun c14 => ?_) (fun c14 => ?_)
      · refine lv_iconst (v := 0) hx hb dX0_isDataBy_27 (by decide) ?_
        exact W.zret (v := 0) hx hb hr (by decide) (fun t ht hW => ⟨0, rfl, trivial, ht⟩) (fun _ h => by cases h) dX0_isDataBy_28
      · refine lv_iconst (v := 1) hx hb dX0_isDataBy_23 (by decide) ?_
        refine lv_goto (tgt := 28) hx hb dX0_isDataBy_24 (by decide) ?_
        exact W.zret (v := 1) hx hb hr (by decide) (fun t ht hW => ⟨1, rfl, trivial, ht⟩) (fun _ h => by cases h) dX0_isDataBy_28
set_option maxHeartbeats 4000000 in
set_option maxRecDepth 100000 in
/-- Entry.isEndOf -/
theorem c_X0_isEndOf (l : Launch) (dC : Nat → ClassId) (dI : Nat → Nat → Nat) (cy : Nat → ClassId) (v : Nat → Nat) (L : List Nat) (K N : Nat → Nat) (T : Nat → Nat → Nat) (I : Nat → Nat → Int32) (Q : Nat → Nat → Option Nat) (J : Nat → Nat → Int32) (a : Nat) (eb : Nat) (hC : CT v L K N T I Q) (ha : a ∈ L) (hk : K a = 0) (hb0 : eb ∈ L) (hkb : K eb = 0) : Met l yX0_isEndOf wsX0_isEndOf ({ frames := 0, cells := 0, slots := 0, locals := 0 }) (va_Pc [.ref a, .ref eb] (pB dC dI cy L (pF cy K N T I Q J))) (vp_Si (fun r => True)) 0 0 (fun _ => False) := by
  refine Met.ofW (cc := cX0_isEndOf) (maxL := 2) (ret := (some .boolean)) (by decide) rfl ?_
  intro p e s m args below meth c s₁ B hml hv
  obtain ⟨rfl, hP, hK, hN⟩ := hv
  have hx := B.exec
  have hb := B.bytes
  have hr := B.returns
  have hts := atoms_spec (ws := wsX0_isEndOf) B.pre
  have hown : s.vm.findClass RX0 = some m.cls := findClass_of_methodNamed B.named
  have hlocks := B.notSynchronized
  have hi0 : ∀ w ∈ wsX00, w ∈ wsX0_isEndOf := by decide +kernel
  have hl := lv_entry ([.ref a, .ref eb]) (n := 2) (Nat.le_of_ble_eq_true rfl)
  rw [lg_entry_eq]
  generalize (lg_sl ([.ref a, .ref eb]) ++ List.replicate (2 - (lg_sl ([.ref a, .ref eb])).length) Slot.unset).toArray = ls at hl ⊢
  have hl : lv_has ls 2 [(0, .ref a), (1, .ref eb)] := hl
  have hn28 := hN.1
  have hn30 := hN.2.1
  have hn37 := hN.2.2.1
  refine lv_aload_n hx hb dX0_isEndOf_0 rfl (lv_at hl 0 rfl) ?_
  obtain ⟨j15, hj15⟩ := pG_0 (cy := cy) (N := N) (T := T) (I := I) (Q := Q) (J := J) ha hk
  refine va_get (D := (dC, dI)) (ci := 0) (v := .int (I a 1)) (C := RX0) (T := TX0) (N := 8) hx hb hts hi0 hown hK hP j15 hj15 rfl 1 (by decide) (hts (.fieldLink RX0 15 "TallyLogs$Entry" "kind" "I") (by decide +kernel)) (fun _ h9 => h9) rfl dX0_isEndOf_1 ?_
  refine lv_topi (fun x16 ex16 => ?_)
  refine lv_if_eq (tgt := 33) hx hb dX0_isEndOf_4 (by decide) (fun c17 => ?_) (fun c17 => ?_)
  · refine lv_iconst (v := 0) hx hb dX0_isEndOf_33 (by decide) ?_
    exact W.zret (v := 0) hx hb hr (by decide) (fun t ht hW => ⟨0, rfl, trivial, ht⟩) (fun _ h => by cases h) dX0_isEndOf_34
  · refine lv_aload_n hx hb dX0_isEndOf_7 rfl (lv_at hl 0 rfl) ?_
    obtain ⟨j18, hj18⟩ := pG_0 (cy := cy) (N := N) (T := T) (I := I) (Q := Q) (J := J) ha hk
    refine va_get (D := (dC, dI)) (ci := 0) (v := .int (I a 2)) (C := RX0) (T := TX0) (N := 8) hx hb hts hi0 hown hK hP j18 hj18 rfl 2 (by decide) (hts (.fieldLink RX0 18 "TallyLogs$Entry" "producer" "I") (by decide +kernel)) (fun _ h9 => h9) rfl dX0_isEndOf_8 ?_
    refine lv_topi (fun x19 ex19 => ?_)
    refine lv_aload_n hx hb dX0_isEndOf_11 rfl (lv_at hl 1 rfl) ?_
    obtain ⟨j20, hj20⟩ := pG_0 (cy := cy) (N := N) (T := T) (I := I) (Q := Q) (J := J) hb0 hkb
    refine va_get (D := (dC, dI)) (ci := 0) (v := .int (I eb 2)) (C := RX0) (T := TX0) (N := 8) hx hb hts hi0 hown hK hP j20 hj20 rfl 2 (by decide) (hts (.fieldLink RX0 18 "TallyLogs$Entry" "producer" "I") (by decide +kernel)) (fun _ h9 => h9) rfl dX0_isEndOf_12 ?_
    refine lv_topi (fun x21 ex21 => ?_)
    refine lv_icmp_ne (tgt := 33) hx hb dX0_isEndOf_15 (by decide) (fun c22 => ?_) (fun c22 => ?_)
    · refine lv_iconst (v := 0) hx hb dX0_isEndOf_33 (by decide) ?_
      exact W.zret (v := 0) hx hb hr (by decide) (fun t ht hW => ⟨0, rfl, trivial, ht⟩) (fun _ h => by cases h) dX0_isEndOf_34
    · refine lv_aload_n hx hb dX0_isEndOf_18 rfl (lv_at hl 0 rfl) ?_
      obtain ⟨j23, hj23⟩ := pG_0 (cy := cy) (N := N) (T := T) (I := I) (Q := Q) (J := J) ha hk
      refine va_get (D := (dC, dI)) (ci := 0) (v := .int (I a 3)) (C := RX0) (T := TX0) (N := 8) hx hb hts hi0 hown hK hP j23 hj23 rfl 3 (by decide) (hts (.fieldLink RX0 21 "TallyLogs$Entry" "generation" "I") (by decide +kernel)) (fun _ h9 => h9) rfl dX0_isEndOf_19 ?_
      refine lv_topi (fun x24 ex24 => ?_)
      refine lv_aload_n hx hb dX0_isEndOf_22 rfl (lv_at hl 1 rfl) ?_
      obtain ⟨j25, hj25⟩ := pG_0 (cy := cy) (N := N) (T := T) (I := I) (Q := Q) (J := J) hb0 hkb
      refine va_get (D := (dC, dI)) (ci := 0) (v := .int (I eb 3)) (C := RX0) (T := TX0) (N := 8) hx hb hts hi0 hown hK hP j25 hj25 rfl 3 (by decide) (hts (.fieldLink RX0 21 "TallyLogs$Entry" "generation" "I") (by decide +kernel)) (fun _ h9 => h9) rfl dX0_isEndOf_23 ?_
      refine lv_topi (fun x26 ex26 => ?_)
      refine lv_icmp_ne (tgt := 33) hx hb dX0_isEndOf_26 (by decide) (fun c27 => ?_) (fun c27 => ?_)
      · refine lv_iconst (v := 0) hx hb dX0_isEndOf_33 (by decide) ?_
        exact W.zret (v := 0) hx hb hr (by decide) (fun t ht hW => ⟨0, rfl, trivial, ht⟩) (fun _ h => by cases h) dX0_isEndOf_34
      · refine lv_iconst (v := 1) hx hb dX0_isEndOf_29 (by decide) ?_
        refine lv_goto (tgt := 34) hx hb dX0_isEndOf_30 (by decide) ?_
        exact W.zret (v := 1) hx hb hr (by decide) (fun t ht hW => ⟨1, rfl, trivial, ht⟩) (fun _ h => by cases h) dX0_isEndOf_34
set_option maxHeartbeats 4000000 in
set_option maxRecDepth 100000 in
/-- Replica.entryAt: null, or an Entry -/
theorem c_X4_entryAt (l : Launch) (dC : Nat → ClassId) (dI : Nat → Nat → Nat) (cy : Nat → ClassId) (v : Nat → Nat) (L : List Nat) (K N : Nat → Nat) (T : Nat → Nat → Nat) (I : Nat → Nat → Int32) (Q : Nat → Nat → Option Nat) (J : Nat → Nat → Int32) (a : Nat) (xo : Int32) (hC : CT v L K N T I Q) (ha : a ∈ L) (hk : K a = 4) : Met l yX4_entryAt wsX4_entryAt ({ frames := 1, cells := 0, slots := 0, locals := 22 }) (va_Pc [.ref a, .int xo] (pB dC dI cy L (pF cy K N T I Q J))) (va_Sq (fun r => ∀ b, r = some b → b ∈ L ∧ K b = 0)) 0 0 (fun _ => False) := by
  refine Met.ofW (cc := cX4_entryAt) (maxL := 2) (ret := (some (.object "TallyLogs$Entry"))) (by decide) rfl ?_
  intro p e s m args below meth c s₁ B hml hv
  obtain ⟨rfl, hP, hK, hN⟩ := hv
  have hx := B.exec
  have hb := B.bytes
  have hr := B.returns
  have hts := atoms_spec (ws := wsX4_entryAt) B.pre
  have hown : s.vm.findClass RX4 = some m.cls := findClass_of_methodNamed B.named
  have hlocks := B.notSynchronized
  have hi4 : ∀ w ∈ wsX40, w ∈ wsX4_entryAt := by decide +kernel
  have hl := lv_entry ([.ref a, .int xo]) (n := 2) (Nat.le_of_ble_eq_true rfl)
  rw [lg_entry_eq]
  generalize (lg_sl ([.ref a, .int xo]) ++ List.replicate (2 - (lg_sl ([.ref a, .int xo])).length) Slot.unset).toArray = ls at hl ⊢
  have hl : lv_has ls 2 [(0, .ref a), (1, .int xo)] := hl
  have hn28 := hN.1
  have hn30 := hN.2.1
  have hn37 := hN.2.2.1
  refine lv_iload_n hx hb dX4_entryAt_0 rfl (lv_at hl 1 rfl) ?_
  refine lv_aload_n hx hb dX4_entryAt_1 rfl (lv_at hl 0 rfl) ?_
  obtain ⟨j28, hj28⟩ := pG_4 (cy := cy) (N := N) (T := T) (I := I) (Q := Q) (J := J) ha hk
  refine va_get (D := (dC, dI)) (ci := 4) (v := .int (I a 1)) (C := RX4) (T := TX4) (N := 7) hx hb hts hi4 hown hK hP j28 hj28 rfl 1 (by decide) (hts (.fieldLink RX4 17 "TallyLogs$Replica" "start" "I") (by decide +kernel)) (fun _ h9 => h9) rfl dX4_entryAt_2 ?_
  refine lv_topi (fun x29 ex29 => ?_)
  refine lv_icmp_lt (tgt := 16) hx hb dX4_entryAt_5 (by decide) (fun c30 => ?_) (fun c30 => ?_)
  · refine lv_null hx hb dX4_entryAt_16 ?_
    refine lv_goto (tgt := 31) hx hb dX4_entryAt_17 (by decide) ?_
    exact W.aret (v := .null) hx hb hr (Or.inl ⟨_, rfl⟩) (Or.inl rfl) (fun t ht hW => ⟨none, rfl, (fun _ h => by cases h), ht⟩) (fun _ h => by cases h) dX4_entryAt_31
  · refine lv_iload_n hx hb dX4_entryAt_8 rfl (lv_at hl 1 rfl) ?_
    refine lv_aload_n hx hb dX4_entryAt_9 rfl (lv_at hl 0 rfl) ?_
    obtain ⟨j31, hj31⟩ := pG_4 (cy := cy) (N := N) (T := T) (I := I) (Q := Q) (J := J) ha hk
    refine va_get (D := (dC, dI)) (ci := 4) (v := .int (I a 2)) (C := RX4) (T := TX4) (N := 7) hx hb hts hi4 hown hK hP j31 hj31 rfl 2 (by decide) (hts (.fieldLink RX4 21 "TallyLogs$Replica" "end" "I") (by decide +kernel)) (fun _ h9 => h9) rfl dX4_entryAt_10 ?_
    refine lv_topi (fun x32 ex32 => ?_)
    refine lv_icmp_lt (tgt := 20) hx hb dX4_entryAt_13 (by decide) (fun c33 => ?_) (fun c33 => ?_)
    · refine lv_aload_n hx hb dX4_entryAt_20 rfl (lv_at hl 0 rfl) ?_
      obtain ⟨j34, hj34⟩ := pG_4 (cy := cy) (N := N) (T := T) (I := I) (Q := Q) (J := J) ha hk
      refine va_get (D := (dC, dI)) (ci := 4) (v := .ref (T a 0)) (C := RX4) (T := TX4) (N := 7) hx hb hts hi4 hown hK hP j34 hj34 rfl 0 (by decide) (hts (.fieldLink RX4 11 "TallyLogs$Replica" "slots" "[LTallyLogs$Entry;") (by decide +kernel)) (fun _ h9 => h9) rfl dX4_entryAt_21 ?_
      obtain ⟨t35, et35⟩ : ∃ t, t = T a 0 := ⟨_, rfl⟩
      have hLt35 : t35 ∈ L := by rw [et35]; exact (hC.2.2.2.2.2.2.1 a ha hk).1
      have hkt35 : K t35 = 8 := by rw [et35]; exact (hC.2.2.2.2.2.2.1 a ha hk).2
      refine W.eq (g2 := F0 m 24 ls [.ref t35]) (by rw [et35]) ?_
      refine lv_iload_n hx hb dX4_entryAt_24 rfl (lv_at hl 1 rfl) ?_
      refine lv_bipush (v := 60) hx hb dX4_entryAt_25 (by decide) ?_
      refine vp_callSi (W.runS (As := [.int xo, .int 60]) (rest := [.ref t35]) ⟨hx, hb, hml, hown, hts⟩ (c_J9_floorMod_7cf53 l xo) (va_cwS 2 hts gX4_entryAt_J9_floorMod_7cf53 rfl rfl rfl (by decide +kernel) ⟨Nat.le_of_ble_eq_true rfl, Nat.le_of_ble_eq_true rfl⟩) preEq rfl rfl hl.1 rfl (lv_room (Nat.le_of_ble_eq_true rfl)) dX4_entryAt_27 ⟨Nat.le_of_ble_eq_true rfl, Nat.le_of_ble_eq_true rfl⟩) (fun r36 hr36 => ?_)
      have hinr36 : vp_in r36 60 := by rw [hr36]; exact sp_fm_in _
      obtain ⟨j37, hj37⟩ := pG_8 (cy := cy) (N := N) (T := T) (I := I) (Q := Q) (J := J) hLt35 hkt35
      refine va_aldq hx hb hK hP j37 1 hj37 rfl hinr36 dX4_entryAt_30 ?_
      cases hq39 : Q t35 r36.toNatClampNeg with
      | none =>
        refine W.eq (g2 := F0 m 31 ls [.null]) rfl ?_
        exact W.aret (v := .null) hx hb hr (Or.inl ⟨_, rfl⟩) (Or.inl rfl) (fun t ht hW => ⟨none, rfl, (fun _ h => by cases h), ht⟩) (fun _ h => by cases h) dX4_entryAt_31
      | some b38 =>
        have hTb38 := (hC.2.2.2.2.2.2.2.2 t35 hLt35 hkt35 r36.toNatClampNeg b38 (vp_lt hinr36) hq39)
        refine W.eq (g2 := F0 m 31 ls [.ref b38]) rfl ?_
        exact W.aret (v := .ref b38) hx hb hr (Or.inl ⟨_, rfl⟩) (Or.inr ⟨_, rfl⟩) (fun t ht hW => ⟨some b38, rfl, (fun _ h => by cases h; exact ⟨hTb38.1, hTb38.2⟩), ht⟩) (fun _ h => by cases h) dX4_entryAt_31
    · refine lv_null hx hb dX4_entryAt_16 ?_
      refine lv_goto (tgt := 31) hx hb dX4_entryAt_17 (by decide) ?_
      exact W.aret (v := .null) hx hb hr (Or.inl ⟨_, rfl⟩) (Or.inl rfl) (fun t ht hW => ⟨none, rfl, (fun _ h => by cases h), ht⟩) (fun _ h => by cases h) dX4_entryAt_31
set_option maxHeartbeats 4000000 in
set_option maxRecDepth 100000 in
/-- Replica.held -/
theorem c_X4_held (l : Launch) (dC : Nat → ClassId) (dI : Nat → Nat → Nat) (cy : Nat → ClassId) (v : Nat → Nat) (L : List Nat) (K N : Nat → Nat) (T : Nat → Nat → Nat) (I : Nat → Nat → Int32) (Q : Nat → Nat → Option Nat) (J : Nat → Nat → Int32) (a : Nat)  (hC : CT v L K N T I Q) (ha : a ∈ L) (hk : K a = 4) : Met l yX4_held wsX4_held ({ frames := 0, cells := 0, slots := 0, locals := 0 }) (va_Pc [.ref a] (pB dC dI cy L (pF cy K N T I Q J))) (vp_Si (fun r => True)) 0 0 (fun _ => False) := by
  refine Met.ofW (cc := cX4_held) (maxL := 1) (ret := (some .int)) (by decide) rfl ?_
  intro p e s m args below meth c s₁ B hml hv
  obtain ⟨rfl, hP, hK, hN⟩ := hv
  have hx := B.exec
  have hb := B.bytes
  have hr := B.returns
  have hts := atoms_spec (ws := wsX4_held) B.pre
  have hown : s.vm.findClass RX4 = some m.cls := findClass_of_methodNamed B.named
  have hlocks := B.notSynchronized
  have hi4 : ∀ w ∈ wsX40, w ∈ wsX4_held := by decide +kernel
  have hl := lv_entry ([.ref a]) (n := 1) (Nat.le_of_ble_eq_true rfl)
  rw [lg_entry_eq]
  generalize (lg_sl ([.ref a]) ++ List.replicate (1 - (lg_sl ([.ref a])).length) Slot.unset).toArray = ls at hl ⊢
  have hl : lv_has ls 1 [(0, .ref a)] := hl
  have hn28 := hN.1
  have hn30 := hN.2.1
  have hn37 := hN.2.2.1
  refine lv_aload_n hx hb dX4_held_0 rfl (lv_at hl 0 rfl) ?_
  obtain ⟨j40, hj40⟩ := pG_4 (cy := cy) (N := N) (T := T) (I := I) (Q := Q) (J := J) ha hk
  refine va_get (D := (dC, dI)) (ci := 4) (v := .int (I a 2)) (C := RX4) (T := TX4) (N := 7) hx hb hts hi4 hown hK hP j40 hj40 rfl 2 (by decide) (hts (.fieldLink RX4 21 "TallyLogs$Replica" "end" "I") (by decide +kernel)) (fun _ h9 => h9) rfl dX4_held_1 ?_
  refine lv_topi (fun x41 ex41 => ?_)
  refine lv_aload_n hx hb dX4_held_4 rfl (lv_at hl 0 rfl) ?_
  obtain ⟨j42, hj42⟩ := pG_4 (cy := cy) (N := N) (T := T) (I := I) (Q := Q) (J := J) ha hk
  refine va_get (D := (dC, dI)) (ci := 4) (v := .int (I a 1)) (C := RX4) (T := TX4) (N := 7) hx hb hts hi4 hown hK hP j42 hj42 rfl 1 (by decide) (hts (.fieldLink RX4 17 "TallyLogs$Replica" "start" "I") (by decide +kernel)) (fun _ h9 => h9) rfl dX4_held_5 ?_
  refine lv_topi (fun x43 ex43 => ?_)
  refine lv_isub hx hb dX4_held_8 ?_
  refine lv_topi (fun v44 ev44 => ?_)
  exact W.iret (v := v44) hx hb hr (fun t ht hW => ⟨v44, rfl, trivial, ht⟩) (fun _ h => by cases h) dX4_held_9
end
section
set_option maxHeartbeats 4000000 in
set_option maxRecDepth 100000 in
/-- Replica.isFull -/
theorem c_X4_isFull (l : Launch) (dC : Nat → ClassId) (dI : Nat → Nat → Nat) (cy : Nat → ClassId) (v : Nat → Nat) (L : List Nat) (K N : Nat → Nat) (T : Nat → Nat → Nat) (I : Nat → Nat → Int32) (Q : Nat → Nat → Option Nat) (J : Nat → Nat → Int32) (a : Nat)  (hC : CT v L K N T I Q) (ha : a ∈ L) (hk : K a = 4) : Met l yX4_isFull wsX4_isFull ({ frames := 1, cells := 0, slots := 0, locals := 20 }) (va_Pc [.ref a] (pB dC dI cy L (pF cy K N T I Q J))) (vp_Si (fun r => True)) 0 0 (fun _ => False) := by
  refine Met.ofW (cc := cX4_isFull) (maxL := 1) (ret := (some .boolean)) (by decide) rfl ?_
  intro p e s m args below meth c s₁ B hml hv
  obtain ⟨rfl, hP, hK, hN⟩ := hv
  have hx := B.exec
  have hb := B.bytes
  have hr := B.returns
  have hts := atoms_spec (ws := wsX4_isFull) B.pre
  have hown : s.vm.findClass RX4 = some m.cls := findClass_of_methodNamed B.named
  have hlocks := B.notSynchronized
  have hi4 : ∀ w ∈ wsX40, w ∈ wsX4_isFull := by decide +kernel
  have hl := lv_entry ([.ref a]) (n := 1) (Nat.le_of_ble_eq_true rfl)
  rw [lg_entry_eq]
  generalize (lg_sl ([.ref a]) ++ List.replicate (1 - (lg_sl ([.ref a])).length) Slot.unset).toArray = ls at hl ⊢
  have hl : lv_has ls 1 [(0, .ref a)] := hl
  have hn28 := hN.1
  have hn30 := hN.2.1
  have hn37 := hN.2.2.1
  refine lv_aload_n hx hb dX4_isFull_0 rfl (lv_at hl 0 rfl) ?_
  obtain ⟨j46, hj46⟩ := pG_4 (cy := cy) (N := N) (T := T) (I := I) (Q := Q) (J := J) ha hk
  refine vp_callSi (W.runV (As := []) (rest := []) ⟨hx, hb, hml, hown, hts⟩ (c_X4_held l dC dI cy v L K N T I Q J a  hC ha hk) (cwV 0 hts gX4_isFull_X4_held rfl rfl rfl (by decide +kernel) ⟨Nat.le_of_ble_eq_true rfl, Nat.le_of_ble_eq_true rfl⟩) ⟨pb_blind, va_recv hK hP (ci := 4) (q0 := j46) rfl hj46, fun U hU hW => ⟨rfl, pb_pre hP hK hN hU hW⟩⟩ rfl rfl hl.1 rfl (lv_room (Nat.le_of_ble_eq_true rfl)) dX4_isFull_1 ⟨Nat.le_of_ble_eq_true rfl, Nat.le_of_ble_eq_true rfl⟩) (fun r45 hr45 => ?_)
  refine lv_bipush (v := 60) hx hb dX4_isFull_4 (by decide) ?_
  refine lv_icmp_lt (tgt := 13) hx hb dX4_isFull_6 (by decide) (fun c47 => ?_) (fun c47 => ?_)
  · refine lv_iconst (v := 0) hx hb dX4_isFull_13 (by decide) ?_
    exact W.zret (v := 0) hx hb hr (by decide) (fun t ht hW => ⟨0, rfl, trivial, ht⟩) (fun _ h => by cases h) dX4_isFull_14
  · refine lv_iconst (v := 1) hx hb dX4_isFull_9 (by decide) ?_
    refine lv_goto (tgt := 14) hx hb dX4_isFull_10 (by decide) ?_
    exact W.zret (v := 1) hx hb hr (by decide) (fun t ht hW => ⟨1, rfl, trivial, ht⟩) (fun _ h => by cases h) dX4_isFull_14
set_option maxHeartbeats 4000000 in
set_option maxRecDepth 100000 in
/-- Replica.hasSameEpoch -/
theorem c_X4_hasSameEpoch (l : Launch) (dC : Nat → ClassId) (dI : Nat → Nat → Nat) (cy : Nat → ClassId) (v : Nat → Nat) (L : List Nat) (K N : Nat → Nat) (T : Nat → Nat → Nat) (I : Nat → Nat → Int32) (Q : Nat → Nat → Option Nat) (J : Nat → Nat → Int32) (a : Nat) (xo : Int32) (rb : Nat) (hC : CT v L K N T I Q) (ha : a ∈ L) (hk : K a = 4) (hb4 : rb ∈ L) (hkb : K rb = 4) : Met l yX4_hasSameEpoch wsX4_hasSameEpoch ({ frames := 2, cells := 0, slots := 0, locals := 43 }) (va_Pc [.ref a, .int xo, .ref rb] (pB dC dI cy L (pF cy K N T I Q J))) (vp_Si (fun r => True)) 0 0 (fun _ => False) := by
  refine Met.ofW (cc := cX4_hasSameEpoch) (maxL := 5) (ret := (some .boolean)) (by decide) rfl ?_
  intro p e s m args below meth c s₁ B hml hv
  obtain ⟨rfl, hP, hK, hN⟩ := hv
  have hx := B.exec
  have hb := B.bytes
  have hr := B.returns
  have hts := atoms_spec (ws := wsX4_hasSameEpoch) B.pre
  have hown : s.vm.findClass RX4 = some m.cls := findClass_of_methodNamed B.named
  have hlocks := B.notSynchronized
  have hi4 : ∀ w ∈ wsX40, w ∈ wsX4_hasSameEpoch := by decide +kernel
  have hi0 : ∀ w ∈ wsX00, w ∈ wsX4_hasSameEpoch := by decide +kernel
  have hl := lv_entry ([.ref a, .int xo, .ref rb]) (n := 5) (Nat.le_of_ble_eq_true rfl)
  rw [lg_entry_eq]
  generalize (lg_sl ([.ref a, .int xo, .ref rb]) ++ List.replicate (5 - (lg_sl ([.ref a, .int xo, .ref rb])).length) Slot.unset).toArray = ls at hl ⊢
  have hl : lv_has ls 5 [(0, .ref a), (1, .int xo), (2, .ref rb)] := hl
  have hn28 := hN.1
  have hn30 := hN.2.1
  have hn37 := hN.2.2.1
  refine lv_aload_n hx hb dX4_hasSameEpoch_0 rfl (lv_at hl 0 rfl) ?_
  refine lv_iload_n hx hb dX4_hasSameEpoch_1 rfl (lv_at hl 1 rfl) ?_
  obtain ⟨j49, hj49⟩ := pG_4 (cy := cy) (N := N) (T := T) (I := I) (Q := Q) (J := J) ha hk
  refine va_csq (W.runV (As := [.int xo]) (rest := []) ⟨hx, hb, hml, hown, hts⟩ (c_X4_entryAt l dC dI cy v L K N T I Q J a xo hC ha hk) (cwV 1 hts gX4_hasSameEpoch_X4_entryAt rfl rfl rfl (by decide +kernel) ⟨Nat.le_of_ble_eq_true rfl, Nat.le_of_ble_eq_true rfl⟩) ⟨pb_blind, va_recv hK hP (ci := 4) (q0 := j49) rfl hj49, fun U hU hW => ⟨rfl, pb_pre hP hK hN hU hW⟩⟩ rfl rfl hl.1 rfl (lv_room (Nat.le_of_ble_eq_true rfl)) dX4_hasSameEpoch_2 ⟨Nat.le_of_ble_eq_true rfl, Nat.le_of_ble_eq_true rfl⟩) (fun r48 hr48 => ?_)
  cases r48 with
  | none =>
    refine W.eq (g2 := F0 m 5 ls [.null]) rfl ?_
    refine lv_astore_nN (lv' := [(3, .null), (0, .ref a), (1, .int xo), (2, .ref rb)]) hx hb dX4_hasSameEpoch_5 rfl hl (by decide) rfl (fun ls hl => ?_)
    refine lv_aload_n hx hb dX4_hasSameEpoch_6 rfl (lv_at hl 3 rfl) ?_
    refine lv_iload_n hx hb dX4_hasSameEpoch_7 rfl (lv_at hl 2 rfl) ?_
    obtain ⟨j52, hj52⟩ := pG_4 (cy := cy) (N := N) (T := T) (I := I) (Q := Q) (J := J) hb4 hkb
    refine va_csq (W.runV (As := [.int xo]) (rest := []) ⟨hx, hb, hml, hown, hts⟩ (c_X4_entryAt l dC dI cy v L K N T I Q J rb xo hC hb4 hkb) (cwV 1 hts gX4_hasSameEpoch_X4_entryAt rfl rfl rfl (by decide +kernel) ⟨Nat.le_of_ble_eq_true rfl, Nat.le_of_ble_eq_true rfl⟩) ⟨pb_blind, va_recv hK hP (ci := 4) (q0 := j52) rfl hj52, fun U hU hW => ⟨rfl, pb_pre hP hK hN hU hW⟩⟩ rfl rfl hl.1 rfl (lv_room (Nat.le_of_ble_eq_true rfl)) dX4_hasSameEpoch_8 ⟨Nat.le_of_ble_eq_true rfl, Nat.le_of_ble_eq_true rfl⟩) (fun r51 hr51 => ?_)
    cases r51 with
    | none =>
      refine W.eq (g2 := F0 m 11 ls [.null]) rfl ?_
      refine lv_astoreN (lv' := [(4, .null), (3, .null), (0, .ref a), (1, .int xo), (2, .ref rb)]) hx hb dX4_hasSameEpoch_11 hl (by decide) rfl (fun ls hl => ?_)
      refine lv_aload_nN hx hb dX4_hasSameEpoch_13 rfl (lv_at hl 1 rfl) ?_
      refine lv_ifnullN (tgt := 38) hx hb dX4_hasSameEpoch_14 (by decide) ?_
      refine lv_iconst (v := 0) hx hb dX4_hasSameEpoch_38 (by decide) ?_
      exact W.zret (v := 0) hx hb hr (by decide) (fun t ht hW => ⟨0, rfl, trivial, ht⟩) (fun _ h => by cases h) dX4_hasSameEpoch_39
    | some b53 =>
      have hTb53 := hr51 b53 rfl
      refine W.eq (g2 := F0 m 11 ls [.ref b53]) rfl ?_
      refine lv_astore (lv' := [(4, .ref b53), (3, .null), (0, .ref a), (1, .int xo), (2, .ref rb)]) hx hb dX4_hasSameEpoch_11 hl (by decide) rfl (fun ls hl => ?_)
      refine lv_aload_nN hx hb dX4_hasSameEpoch_13 rfl (lv_at hl 1 rfl) ?_
      refine lv_ifnullN (tgt := 38) hx hb dX4_hasSameEpoch_14 (by decide) ?_
      refine lv_iconst (v := 0) hx hb dX4_hasSameEpoch_38 (by decide) ?_
      exact W.zret (v := 0) hx hb hr (by decide) (fun t ht hW => ⟨0, rfl, trivial, ht⟩) (fun _ h => by cases h) dX4_hasSameEpoch_39
  | some b50 =>
    have hTb50 := hr48 b50 rfl
    refine W.eq (g2 := F0 m 5 ls [.ref b50]) rfl ?_
    refine lv_astore_n (lv' := [(3, .ref b50), (0, .ref a), (1, .int xo), (2, .ref rb)]) hx hb dX4_hasSameEpoch_5 rfl hl (by decide) rfl (fun ls hl => ?_)
    refine lv_aload_n hx hb dX4_hasSameEpoch_6 rfl (lv_at hl 3 rfl) ?_
    refine lv_iload_n hx hb dX4_hasSameEpoch_7 rfl (lv_at hl 2 rfl) ?_
    obtain ⟨j55, hj55⟩ := pG_4 (cy := cy) (N := N) (T := T) (I := I) (Q := Q) (J := J) hb4 hkb
    refine va_csq (W.runV (As := [.int xo]) (rest := []) ⟨hx, hb, hml, hown, hts⟩ (c_X4_entryAt l dC dI cy v L K N T I Q J rb xo hC hb4 hkb) (cwV 1 hts gX4_hasSameEpoch_X4_entryAt rfl rfl rfl (by decide +kernel) ⟨Nat.le_of_ble_eq_true rfl, Nat.le_of_ble_eq_true rfl⟩) ⟨pb_blind, va_recv hK hP (ci := 4) (q0 := j55) rfl hj55, fun U hU hW => ⟨rfl, pb_pre hP hK hN hU hW⟩⟩ rfl rfl hl.1 rfl (lv_room (Nat.le_of_ble_eq_true rfl)) dX4_hasSameEpoch_8 ⟨Nat.le_of_ble_eq_true rfl, Nat.le_of_ble_eq_true rfl⟩) (fun r54 hr54 => ?_)
    cases r54 with
    | none =>
      refine W.eq (g2 := F0 m 11 ls [.null]) rfl ?_
      refine lv_astoreN (lv' := [(4, .null), (3, .ref b50), (0, .ref a), (1, .int xo), (2, .ref rb)]) hx hb dX4_hasSameEpoch_11 hl (by decide) rfl (fun ls hl => ?_)
      refine lv_aload_n hx hb dX4_hasSameEpoch_13 rfl (lv_at hl 1 rfl) ?_
      refine lv_ifnull hx hb dX4_hasSameEpoch_14 ?_
      refine lv_aloadN hx hb dX4_hasSameEpoch_17 (lv_at hl 0 rfl) ?_
      refine lv_ifnullN (tgt := 38) hx hb dX4_hasSameEpoch_19 (by decide) ?_
      refine lv_iconst (v := 0) hx hb dX4_hasSameEpoch_38 (by decide) ?_
      exact W.zret (v := 0) hx hb hr (by decide) (fun t ht hW => ⟨0, rfl, trivial, ht⟩) (fun _ h => by cases h) dX4_hasSameEpoch_39
    | some b56 =>
      have hTb56 := hr54 b56 rfl
      refine W.eq (g2 := F0 m 11 ls [.ref b56]) rfl ?_
      refine lv_astore (lv' := [(4, .ref b56), (3, .ref b50), (0, .ref a), (1, .int xo), (2, .ref rb)]) hx hb dX4_hasSameEpoch_11 hl (by decide) rfl (fun ls hl => ?_)
      refine lv_aload_n hx hb dX4_hasSameEpoch_13 rfl (lv_at hl 1 rfl) ?_
      refine lv_ifnull hx hb dX4_hasSameEpoch_14 ?_
      refine lv_aload hx hb dX4_hasSameEpoch_17 (lv_at hl 0 rfl) ?_
      refine lv_ifnull hx hb dX4_hasSameEpoch_19 ?_
      refine lv_aload_n hx hb dX4_hasSameEpoch_22 rfl (lv_at hl 1 rfl) ?_
      obtain ⟨j57, hj57⟩ := pG_0 (cy := cy) (N := N) (T := T) (I := I) (Q := Q) (J := J) hTb50.1 hTb50.2
      refine va_get (D := (dC, dI)) (ci := 0) (v := .int (I b50 0)) (C := RX0) (T := TX0) (N := 8) hx hb hts hi0 hown hK hP j57 hj57 rfl 0 (by decide) (hts (.fieldLink RX4 67 "TallyLogs$Entry" "epoch" "I") (by decide +kernel)) (fun _ h9 => h9) rfl dX4_hasSameEpoch_23 ?_
      refine lv_topi (fun x58 ex58 => ?_)
      refine lv_aload hx hb dX4_hasSameEpoch_26 (lv_at hl 0 rfl) ?_
      obtain ⟨j59, hj59⟩ := pG_0 (cy := cy) (N := N) (T := T) (I := I) (Q := Q) (J := J) hTb56.1 hTb56.2
      refine va_get (D := (dC, dI)) (ci := 0) (v := .int (I b56 0)) (C := RX0) (T := TX0) (N := 8) hx hb hts hi0 hown hK hP j59 hj59 rfl 0 (by decide) (hts (.fieldLink RX4 67 "TallyLogs$Entry" "epoch" "I") (by decide +kernel)) (fun _ h9 => h9) rfl dX4_hasSameEpoch_28 ?_
      refine lv_topi (fun x60 ex60 => ?_)
      refine lv_icmp_ne (tgt := 38) hx hb dX4_hasSameEpoch_31 (by decide) (fun c61 => ?_) (fun c61 => ?_)
      · refine lv_iconst (v := 0) hx hb dX4_hasSameEpoch_38 (by decide) ?_
        exact W.zret (v := 0) hx hb hr (by decide) (fun t ht hW => ⟨0, rfl, trivial, ht⟩) (fun _ h => by cases h) dX4_hasSameEpoch_39
      · refine lv_iconst (v := 1) hx hb dX4_hasSameEpoch_34 (by decide) ?_
        refine lv_goto (tgt := 39) hx hb dX4_hasSameEpoch_35 (by decide) ?_
        exact W.zret (v := 1) hx hb hr (by decide) (fun t ht hW => ⟨1, rfl, trivial, ht⟩) (fun _ h => by cases h) dX4_hasSameEpoch_39
set_option maxHeartbeats 4000000 in
set_option maxRecDepth 100000 in
/-- Replica.offsetOf -/
theorem c_X4_offsetOf (l : Launch) (dC : Nat → ClassId) (dI : Nat → Nat → Nat) (cy : Nat → ClassId) (v : Nat → Nat) (L : List Nat) (K N : Nat → Nat) (T : Nat → Nat → Nat) (I : Nat → Nat → Int32) (Q : Nat → Nat → Option Nat) (J : Nat → Nat → Int32) (a : Nat) (ka : Int32) (kb : Int32) (sq : Int32) (hC : CT v L K N T I Q) (ha : a ∈ L) (hk : K a = 4) : Met l yX4_offsetOf wsX4_offsetOf ({ frames := 2, cells := 0, slots := 0, locals := 43 }) (va_Pc [.ref a, .int ka, .int kb, .int sq] (pB dC dI cy L (pF cy K N T I Q J))) (vp_Si (fun r => True)) 0 0 (fun _ => False) := by
  refine Met.ofW (cc := cX4_offsetOf) (maxL := 6) (ret := (some .int)) (by decide) rfl ?_
  intro p e s m args below meth c s₁ B hml hv
  obtain ⟨rfl, hP, hK, hN⟩ := hv
  have hx := B.exec
  have hb := B.bytes
  have hr := B.returns
  have hts := atoms_spec (ws := wsX4_offsetOf) B.pre
  have hown : s.vm.findClass RX4 = some m.cls := findClass_of_methodNamed B.named
  have hlocks := B.notSynchronized
  have hi4 : ∀ w ∈ wsX40, w ∈ wsX4_offsetOf := by decide +kernel
  have hi0 : ∀ w ∈ wsX00, w ∈ wsX4_offsetOf := by decide +kernel
  have hl := lv_entry ([.ref a, .int ka, .int kb, .int sq]) (n := 6) (Nat.le_of_ble_eq_true rfl)
  rw [lg_entry_eq]
  generalize (lg_sl ([.ref a, .int ka, .int kb, .int sq]) ++ List.replicate (6 - (lg_sl ([.ref a, .int ka, .int kb, .int sq])).length) Slot.unset).toArray = ls at hl ⊢
  have hl : lv_has ls 6 [(0, .ref a), (1, .int ka), (2, .int kb), (3, .int sq)] := hl
  have hn28 := hN.1
  have hn30 := hN.2.1
  have hn37 := hN.2.2.1
  refine lv_aload_n hx hb dX4_offsetOf_0 rfl (lv_at hl 0 rfl) ?_
  obtain ⟨j62, hj62⟩ := pG_4 (cy := cy) (N := N) (T := T) (I := I) (Q := Q) (J := J) ha hk
  refine va_get (D := (dC, dI)) (ci := 4) (v := .int (I a 1)) (C := RX4) (T := TX4) (N := 7) hx hb hts hi4 hown hK hP j62 hj62 rfl 1 (by decide) (hts (.fieldLink RX4 17 "TallyLogs$Replica" "start" "I") (by decide +kernel)) (fun _ h9 => h9) rfl dX4_offsetOf_1 ?_
  refine lv_topi (fun x63 ex63 => ?_)
  refine lv_istore (lv' := [(4, .int x63), (0, .ref a), (1, .int ka), (2, .int kb), (3, .int sq)]) hx hb dX4_offsetOf_4 hl (by decide) rfl (fun ls hl => ?_)
  refine wq_gen (fun Qz hQz => ?_)
  have hLP65 : ∀ (n : Nat) (y64 : Int32) (ls : Array Slot), ((I a 2).toInt - y64.toInt).toNat < n → lv_has ls 6 [(4, .int y64), (0, .ref a), (1, .int ka), (2, .int kb), (3, .int sq)] → W p l e (headSpec wsX4_offsetOf ({ frames := 2, cells := 0, slots := 0, locals := 43 })).room s m ([.ref a, .int ka, .int kb, .int sq] : List Value).toArray below meth c s.heap [] 0 0 Qz (F0 m 6 ls []) := by
    intro n
    induction n with
    | zero => intro y64 ls hms; exact absurd hms (Nat.not_lt_zero _)
    | succ n ih =>
      intro y64 ls hms hl
      refine lv_iload hx hb dX4_offsetOf_6 (lv_at hl 0 rfl) ?_
      refine lv_aload_n hx hb dX4_offsetOf_8 rfl (lv_at hl 1 rfl) ?_
      obtain ⟨j66, hj66⟩ := pG_4 (cy := cy) (N := N) (T := T) (I := I) (Q := Q) (J := J) ha hk
      refine va_get (D := (dC, dI)) (ci := 4) (v := .int (I a 2)) (C := RX4) (T := TX4) (N := 7) hx hb hts hi4 hown hK hP j66 hj66 rfl 2 (by decide) (hts (.fieldLink RX4 21 "TallyLogs$Replica" "end" "I") (by decide +kernel)) (fun _ h9 => h9) rfl dX4_offsetOf_9 ?_
      refine lv_topi (fun x67 ex67 => ?_)
      refine lv_icmp_ge (tgt := 56) hx hb dX4_offsetOf_12 (by decide) (fun c68 => ?_) (fun c68 => ?_)
      · refine lv_iconst (v := (-1)) hx hb dX4_offsetOf_56 (by decide) ?_
        rw [hQz]
        exact W.iret (v := (-1)) hx hb hr (fun t ht hW => ⟨(-1), rfl, trivial, ht⟩) (fun _ h => by cases h) dX4_offsetOf_57
      · refine lv_aload_n hx hb dX4_offsetOf_15 rfl (lv_at hl 1 rfl) ?_
        refine lv_iload hx hb dX4_offsetOf_16 (lv_at hl 0 rfl) ?_
        obtain ⟨j70, hj70⟩ := pG_4 (cy := cy) (N := N) (T := T) (I := I) (Q := Q) (J := J) ha hk
        refine va_csq (W.runV (As := [.int y64]) (rest := []) ⟨hx, hb, hml, hown, hts⟩ (c_X4_entryAt l dC dI cy v L K N T I Q J a y64 hC ha hk) (cwV 1 hts gX4_offsetOf_X4_entryAt rfl rfl rfl (by decide +kernel) ⟨Nat.le_of_ble_eq_true rfl, Nat.le_of_ble_eq_true rfl⟩) ⟨pb_blind, va_recv hK hP (ci := 4) (q0 := j70) rfl hj70, fun U hU hW => ⟨rfl, pb_pre hP hK hN hU hW⟩⟩ rfl rfl hl.1 rfl (lv_room (Nat.le_of_ble_eq_true rfl)) dX4_offsetOf_18 ⟨Nat.le_of_ble_eq_true rfl, Nat.le_of_ble_eq_true rfl⟩) (fun r69 hr69 => ?_)
        cases r69 with
        | none =>
          refine W.eq (g2 := F0 m 21 ls [.null]) rfl ?_
          refine lv_astoreN (lv' := [(5, .null), (4, .int y64), (0, .ref a), (1, .int ka), (2, .int kb), (3, .int sq)]) hx hb dX4_offsetOf_21 hl (by decide) rfl (fun ls hl => ?_)
          refine lv_aloadN hx hb dX4_offsetOf_23 (lv_at hl 0 rfl) ?_
          refine lv_ifnullN (tgt := 50) hx hb dX4_offsetOf_25 (by decide) ?_
          obtain ⟨v72, ev72⟩ : ∃ y : Int32, y = y64 + Int32.ofInt 1 := ⟨_, rfl⟩
          refine lv_iinc (v := v72) (lv' := [(4, .int v72), (5, .null), (0, .ref a), (1, .int ka), (2, .int kb), (3, .int sq)]) hx hb dX4_offsetOf_50 hl (k := 1) rfl ev72.symm (by decide) rfl (fun ls hl => ?_)
          refine lv_goto (tgt := 6) hx hb dX4_offsetOf_53 (by decide) ?_
          exact ih _ _ (by have kc := c68; rw [ex67] at kc; simp only [xk_le, xk_lt] at kc; have h9 := xinc (x := y64) (y := I a 2) (by rw [xk_lt]; omega); rw [ev72, show y64 + Int32.ofInt 1 = y64 + 1 from rfl, h9]; omega) (lv_sub hl [0, 2, 3, 4, 5] rfl)
        | some b71 =>
          have hTb71 := hr69 b71 rfl
          refine W.eq (g2 := F0 m 21 ls [.ref b71]) rfl ?_
          refine lv_astore (lv' := [(5, .ref b71), (4, .int y64), (0, .ref a), (1, .int ka), (2, .int kb), (3, .int sq)]) hx hb dX4_offsetOf_21 hl (by decide) rfl (fun ls hl => ?_)
          refine lv_aload hx hb dX4_offsetOf_23 (lv_at hl 0 rfl) ?_
          refine lv_ifnull hx hb dX4_offsetOf_25 ?_
          refine lv_aload hx hb dX4_offsetOf_28 (lv_at hl 0 rfl) ?_
          refine lv_iload_n hx hb dX4_offsetOf_30 rfl (lv_at hl 3 rfl) ?_
          refine lv_iload_n hx hb dX4_offsetOf_31 rfl (lv_at hl 4 rfl) ?_
          obtain ⟨j74, hj74⟩ := pG_0 (cy := cy) (N := N) (T := T) (I := I) (Q := Q) (J := J) hTb71.1 hTb71.2
          refine vp_callSi (W.runV (As := [.int ka, .int kb]) (rest := []) ⟨hx, hb, hml, hown, hts⟩ (c_X0_isDataBy l dC dI cy v L K N T I Q J b71 ka kb hC hTb71.1 hTb71.2) (cwV 2 hts gX4_offsetOf_X0_isDataBy rfl rfl rfl (by decide +kernel) ⟨Nat.le_of_ble_eq_true rfl, Nat.le_of_ble_eq_true rfl⟩) ⟨pb_blind, va_recv hK hP (ci := 0) (q0 := j74) rfl hj74, fun U hU hW => ⟨rfl, pb_pre hP hK hN hU hW⟩⟩ rfl rfl hl.1 rfl (lv_room (Nat.le_of_ble_eq_true rfl)) dX4_offsetOf_32 ⟨Nat.le_of_ble_eq_true rfl, Nat.le_of_ble_eq_true rfl⟩) (fun r73 hr73 => ?_)
          refine lv_if_eq (tgt := 50) hx hb dX4_offsetOf_35 (by decide) (fun c75 => ?_) (fun c75 => ?_)
          · obtain ⟨v76, ev76⟩ : ∃ y : Int32, y = y64 + Int32.ofInt 1 := ⟨_, rfl⟩
            refine lv_iinc (v := v76) (lv' := [(4, .int v76), (5, .ref b71), (0, .ref a), (1, .int ka), (2, .int kb), (3, .int sq)]) hx hb dX4_offsetOf_50 hl (k := 1) rfl ev76.symm (by decide) rfl (fun ls hl => ?_)
            refine lv_goto (tgt := 6) hx hb dX4_offsetOf_53 (by decide) ?_
            exact ih _ _ (by have kc := c68; rw [ex67] at kc; simp only [xk_le, xk_lt] at kc; have h9 := xinc (x := y64) (y := I a 2) (by rw [xk_lt]; omega); rw [ev76, show y64 + Int32.ofInt 1 = y64 + 1 from rfl, h9]; omega) (lv_sub hl [0, 2, 3, 4, 5] rfl)
          · refine lv_aload hx hb dX4_offsetOf_38 (lv_at hl 0 rfl) ?_
            obtain ⟨j77, hj77⟩ := pG_0 (cy := cy) (N := N) (T := T) (I := I) (Q := Q) (J := J) hTb71.1 hTb71.2
            refine va_get (D := (dC, dI)) (ci := 0) (v := .int (I b71 4)) (C := RX0) (T := TX0) (N := 8) hx hb hts hi0 hown hK hP j77 hj77 rfl 4 (by decide) (hts (.fieldLink RX4 60 "TallyLogs$Entry" "seq" "I") (by decide +kernel)) (fun _ h9 => h9) rfl dX4_offsetOf_40 ?_
            refine lv_topi (fun x78 ex78 => ?_)
            refine lv_iload_n hx hb dX4_offsetOf_43 rfl (lv_at hl 5 rfl) ?_
            refine lv_icmp_ne (tgt := 50) hx hb dX4_offsetOf_44 (by decide) (fun c79 => ?_) (fun c79 => ?_)
            · obtain ⟨v80, ev80⟩ : ∃ y : Int32, y = y64 + Int32.ofInt 1 := ⟨_, rfl⟩
              refine lv_iinc (v := v80) (lv' := [(4, .int v80), (5, .ref b71), (0, .ref a), (1, .int ka), (2, .int kb), (3, .int sq)]) hx hb dX4_offsetOf_50 hl (k := 1) rfl ev80.symm (by decide) rfl (fun ls hl => ?_)
              refine lv_goto (tgt := 6) hx hb dX4_offsetOf_53 (by decide) ?_
              exact ih _ _ (by have kc := c68; rw [ex67] at kc; simp only [xk_le, xk_lt] at kc; have h9 := xinc (x := y64) (y := I a 2) (by rw [xk_lt]; omega); rw [ev80, show y64 + Int32.ofInt 1 = y64 + 1 from rfl, h9]; omega) (lv_sub hl [0, 2, 3, 4, 5] rfl)
            · refine lv_iload hx hb dX4_offsetOf_47 (lv_at hl 1 rfl) ?_
              rw [hQz]
              exact W.iret (v := y64) hx hb hr (fun t ht hW => ⟨y64, rfl, trivial, ht⟩) (fun _ h => by cases h) dX4_offsetOf_49
  exact hLP65 _ _ _ (Nat.lt_succ_self _) (lv_sub hl [0, 1, 2, 3, 4] rfl)
set_option maxHeartbeats 4000000 in
set_option maxRecDepth 100000 in
/-- Replica.endKindOf -/
theorem c_X4_endKindOf (l : Launch) (dC : Nat → ClassId) (dI : Nat → Nat → Nat) (cy : Nat → ClassId) (v : Nat → Nat) (L : List Nat) (K N : Nat → Nat) (T : Nat → Nat → Nat) (I : Nat → Nat → Int32) (Q : Nat → Nat → Option Nat) (J : Nat → Nat → Int32) (a : Nat) (eb : Nat) (xo : Int32) (hC : CT v L K N T I Q) (ha : a ∈ L) (hk : K a = 4) (hb0 : eb ∈ L) (hkb : K eb = 0) : Met l yX4_endKindOf wsX4_endKindOf ({ frames := 2, cells := 0, slots := 0, locals := 43 }) (va_Pc [.ref a, .ref eb, .int xo] (pB dC dI cy L (pF cy K N T I Q J))) (vp_Si (fun r => True)) 0 0 (fun _ => False) := by
  refine Met.ofW (cc := cX4_endKindOf) (maxL := 5) (ret := (some .int)) (by decide) rfl ?_
  intro p e s m args below meth c s₁ B hml hv
  obtain ⟨rfl, hP, hK, hN⟩ := hv
  have hx := B.exec
  have hb := B.bytes
  have hr := B.returns
  have hts := atoms_spec (ws := wsX4_endKindOf) B.pre
  have hown : s.vm.findClass RX4 = some m.cls := findClass_of_methodNamed B.named
  have hlocks := B.notSynchronized
  have hi4 : ∀ w ∈ wsX40, w ∈ wsX4_endKindOf := by decide +kernel
  have hi0 : ∀ w ∈ wsX00, w ∈ wsX4_endKindOf := by decide +kernel
  have hl := lv_entry ([.ref a, .ref eb, .int xo]) (n := 5) (Nat.le_of_ble_eq_true rfl)
  rw [lg_entry_eq]
  generalize (lg_sl ([.ref a, .ref eb, .int xo]) ++ List.replicate (5 - (lg_sl ([.ref a, .ref eb, .int xo])).length) Slot.unset).toArray = ls at hl ⊢
  have hl : lv_has ls 5 [(0, .ref a), (1, .ref eb), (2, .int xo)] := hl
  have hn28 := hN.1
  have hn30 := hN.2.1
  have hn37 := hN.2.2.1
  refine lv_iload_n hx hb dX4_endKindOf_0 rfl (lv_at hl 2 rfl) ?_
  refine lv_iconst (v := 1) hx hb dX4_endKindOf_1 (by decide) ?_
  refine lv_iadd hx hb dX4_endKindOf_2 ?_
  refine lv_topi (fun v81 ev81 => ?_)
  refine lv_istore_n (lv' := [(3, .int v81), (0, .ref a), (1, .ref eb), (2, .int xo)]) hx hb dX4_endKindOf_3 rfl hl (by decide) rfl (fun ls hl => ?_)
  refine wq_gen (fun Qz hQz => ?_)
  have hLP83 : ∀ (n : Nat) (y82 : Int32) (ls : Array Slot), ((I a 2).toInt - y82.toInt).toNat < n → lv_has ls 5 [(3, .int y82), (0, .ref a), (1, .ref eb), (2, .int xo)] → W p l e (headSpec wsX4_endKindOf ({ frames := 2, cells := 0, slots := 0, locals := 43 })).room s m ([.ref a, .ref eb, .int xo] : List Value).toArray below meth c s.heap [] 0 0 Qz (F0 m 4 ls []) := by
    intro n
    induction n with
    | zero => intro y82 ls hms; exact absurd hms (Nat.not_lt_zero _)
    | succ n ih =>
      intro y82 ls hms hl
      refine lv_iload_n hx hb dX4_endKindOf_4 rfl (lv_at hl 0 rfl) ?_
      refine lv_aload_n hx hb dX4_endKindOf_5 rfl (lv_at hl 1 rfl) ?_
      obtain ⟨j84, hj84⟩ := pG_4 (cy := cy) (N := N) (T := T) (I := I) (Q := Q) (J := J) ha hk
      refine va_get (D := (dC, dI)) (ci := 4) (v := .int (I a 2)) (C := RX4) (T := TX4) (N := 7) hx hb hts hi4 hown hK hP j84 hj84 rfl 2 (by decide) (hts (.fieldLink RX4 21 "TallyLogs$Replica" "end" "I") (by decide +kernel)) (fun _ h9 => h9) rfl dX4_endKindOf_6 ?_
      refine lv_topi (fun x85 ex85 => ?_)
      refine lv_icmp_ge (tgt := 45) hx hb dX4_endKindOf_9 (by decide) (fun c86 => ?_) (fun c86 => ?_)
      · refine lv_iconst (v := 0) hx hb dX4_endKindOf_45 (by decide) ?_
        rw [hQz]
        exact W.iret (v := 0) hx hb hr (fun t ht hW => ⟨0, rfl, trivial, ht⟩) (fun _ h => by cases h) dX4_endKindOf_46
      · refine lv_aload_n hx hb dX4_endKindOf_12 rfl (lv_at hl 1 rfl) ?_
        refine lv_iload_n hx hb dX4_endKindOf_13 rfl (lv_at hl 0 rfl) ?_
        obtain ⟨j88, hj88⟩ := pG_4 (cy := cy) (N := N) (T := T) (I := I) (Q := Q) (J := J) ha hk
        refine va_csq (W.runV (As := [.int y82]) (rest := []) ⟨hx, hb, hml, hown, hts⟩ (c_X4_entryAt l dC dI cy v L K N T I Q J a y82 hC ha hk) (cwV 1 hts gX4_endKindOf_X4_entryAt rfl rfl rfl (by decide +kernel) ⟨Nat.le_of_ble_eq_true rfl, Nat.le_of_ble_eq_true rfl⟩) ⟨pb_blind, va_recv hK hP (ci := 4) (q0 := j88) rfl hj88, fun U hU hW => ⟨rfl, pb_pre hP hK hN hU hW⟩⟩ rfl rfl hl.1 rfl (lv_room (Nat.le_of_ble_eq_true rfl)) dX4_endKindOf_14 ⟨Nat.le_of_ble_eq_true rfl, Nat.le_of_ble_eq_true rfl⟩) (fun r87 hr87 => ?_)
        cases r87 with
        | none =>
          refine W.eq (g2 := F0 m 17 ls [.null]) rfl ?_
          refine lv_astoreN (lv' := [(4, .null), (3, .int y82), (0, .ref a), (1, .ref eb), (2, .int xo)]) hx hb dX4_endKindOf_17 hl (by decide) rfl (fun ls hl => ?_)
          refine lv_aloadN hx hb dX4_endKindOf_19 (lv_at hl 0 rfl) ?_
          refine lv_ifnullN (tgt := 39) hx hb dX4_endKindOf_21 (by decide) ?_
          obtain ⟨v90, ev90⟩ : ∃ y : Int32, y = y82 + Int32.ofInt 1 := ⟨_, rfl⟩
          refine lv_iinc (v := v90) (lv' := [(3, .int v90), (4, .null), (0, .ref a), (1, .ref eb), (2, .int xo)]) hx hb dX4_endKindOf_39 hl (k := 1) rfl ev90.symm (by decide) rfl (fun ls hl => ?_)
          refine lv_goto (tgt := 4) hx hb dX4_endKindOf_42 (by decide) ?_
          exact ih _ _ (by have kc := c86; rw [ex85] at kc; simp only [xk_le, xk_lt] at kc; have h9 := xinc (x := y82) (y := I a 2) (by rw [xk_lt]; omega); rw [ev90, show y82 + Int32.ofInt 1 = y82 + 1 from rfl, h9]; omega) (lv_sub hl [0, 2, 3, 4] rfl)
        | some b89 =>
          have hTb89 := hr87 b89 rfl
          refine W.eq (g2 := F0 m 17 ls [.ref b89]) rfl ?_
          refine lv_astore (lv' := [(4, .ref b89), (3, .int y82), (0, .ref a), (1, .ref eb), (2, .int xo)]) hx hb dX4_endKindOf_17 hl (by decide) rfl (fun ls hl => ?_)
          refine lv_aload hx hb dX4_endKindOf_19 (lv_at hl 0 rfl) ?_
          refine lv_ifnull hx hb dX4_endKindOf_21 ?_
          refine lv_aload hx hb dX4_endKindOf_24 (lv_at hl 0 rfl) ?_
          refine lv_aload_n hx hb dX4_endKindOf_26 rfl (lv_at hl 3 rfl) ?_
          obtain ⟨j92, hj92⟩ := pG_0 (cy := cy) (N := N) (T := T) (I := I) (Q := Q) (J := J) hTb89.1 hTb89.2
          refine vp_callSi (W.runV (As := [.ref eb]) (rest := []) ⟨hx, hb, hml, hown, hts⟩ (c_X0_isEndOf l dC dI cy v L K N T I Q J b89 eb hC hTb89.1 hTb89.2 hb0 hkb) (cwV 1 hts gX4_endKindOf_X0_isEndOf rfl rfl rfl (by decide +kernel) ⟨Nat.le_of_ble_eq_true rfl, Nat.le_of_ble_eq_true rfl⟩) ⟨pb_blind, va_recv hK hP (ci := 0) (q0 := j92) rfl hj92, fun U hU hW => ⟨rfl, pb_pre hP hK hN hU hW⟩⟩ rfl rfl hl.1 rfl (lv_room (Nat.le_of_ble_eq_true rfl)) dX4_endKindOf_27 ⟨Nat.le_of_ble_eq_true rfl, Nat.le_of_ble_eq_true rfl⟩) (fun r91 hr91 => ?_)
          refine lv_if_eq (tgt := 39) hx hb dX4_endKindOf_30 (by decide) (fun c93 => ?_) (fun c93 => ?_)
          · obtain ⟨v94, ev94⟩ : ∃ y : Int32, y = y82 + Int32.ofInt 1 := ⟨_, rfl⟩
            refine lv_iinc (v := v94) (lv' := [(3, .int v94), (4, .ref b89), (0, .ref a), (1, .ref eb), (2, .int xo)]) hx hb dX4_endKindOf_39 hl (k := 1) rfl ev94.symm (by decide) rfl (fun ls hl => ?_)
            refine lv_goto (tgt := 4) hx hb dX4_endKindOf_42 (by decide) ?_
            exact ih _ _ (by have kc := c86; rw [ex85] at kc; simp only [xk_le, xk_lt] at kc; have h9 := xinc (x := y82) (y := I a 2) (by rw [xk_lt]; omega); rw [ev94, show y82 + Int32.ofInt 1 = y82 + 1 from rfl, h9]; omega) (lv_sub hl [0, 2, 3, 4] rfl)
          · refine lv_aload hx hb dX4_endKindOf_33 (lv_at hl 0 rfl) ?_
            obtain ⟨j95, hj95⟩ := pG_0 (cy := cy) (N := N) (T := T) (I := I) (Q := Q) (J := J) hTb89.1 hTb89.2
            refine va_get (D := (dC, dI)) (ci := 0) (v := .int (I b89 1)) (C := RX0) (T := TX0) (N := 8) hx hb hts hi0 hown hK hP j95 hj95 rfl 1 (by decide) (hts (.fieldLink RX4 82 "TallyLogs$Entry" "kind" "I") (by decide +kernel)) (fun _ h9 => h9) rfl dX4_endKindOf_35 ?_
            refine lv_topi (fun x96 ex96 => ?_)
            rw [hQz]
            exact W.iret (v := x96) hx hb hr (fun t ht hW => ⟨x96, rfl, trivial, ht⟩) (fun _ h => by cases h) dX4_endKindOf_38
  exact hLP83 _ _ _ (Nat.lt_succ_self _) (lv_sub hl [0, 1, 2, 3] rfl)
set_option maxHeartbeats 4000000 in
set_option maxRecDepth 100000 in
/-- Replica.firstOpen -/
theorem c_X4_firstOpen (l : Launch) (dC : Nat → ClassId) (dI : Nat → Nat → Nat) (cy : Nat → ClassId) (v : Nat → Nat) (L : List Nat) (K N : Nat → Nat) (T : Nat → Nat → Nat) (I : Nat → Nat → Int32) (Q : Nat → Nat → Option Nat) (J : Nat → Nat → Int32) (a : Nat)  (hC : CT v L K N T I Q) (ha : a ∈ L) (hk : K a = 4) : Met l yX4_firstOpen wsX4_firstOpen ({ frames := 3, cells := 0, slots := 0, locals := 67 }) (va_Pc [.ref a] (pB dC dI cy L (pF cy K N T I Q J))) (vp_Si (fun r => True)) 0 0 (fun _ => False) := by
  refine Met.ofW (cc := cX4_firstOpen) (maxL := 3) (ret := (some .int)) (by decide) rfl ?_
  intro p e s m args below meth c s₁ B hml hv
  obtain ⟨rfl, hP, hK, hN⟩ := hv
  have hx := B.exec
  have hb := B.bytes
  have hr := B.returns
  have hts := atoms_spec (ws := wsX4_firstOpen) B.pre
  have hown : s.vm.findClass RX4 = some m.cls := findClass_of_methodNamed B.named
  have hlocks := B.notSynchronized
  have hi4 : ∀ w ∈ wsX40, w ∈ wsX4_firstOpen := by decide +kernel
  have hi0 : ∀ w ∈ wsX00, w ∈ wsX4_firstOpen := by decide +kernel
  have hl := lv_entry ([.ref a]) (n := 3) (Nat.le_of_ble_eq_true rfl)
  rw [lg_entry_eq]
  generalize (lg_sl ([.ref a]) ++ List.replicate (3 - (lg_sl ([.ref a])).length) Slot.unset).toArray = ls at hl ⊢
  have hl : lv_has ls 3 [(0, .ref a)] := hl
  have hn28 := hN.1
  have hn30 := hN.2.1
  have hn37 := hN.2.2.1
  refine lv_aload_n hx hb dX4_firstOpen_0 rfl (lv_at hl 0 rfl) ?_
  obtain ⟨j97, hj97⟩ := pG_4 (cy := cy) (N := N) (T := T) (I := I) (Q := Q) (J := J) ha hk
  refine va_get (D := (dC, dI)) (ci := 4) (v := .int (I a 1)) (C := RX4) (T := TX4) (N := 7) hx hb hts hi4 hown hK hP j97 hj97 rfl 1 (by decide) (hts (.fieldLink RX4 17 "TallyLogs$Replica" "start" "I") (by decide +kernel)) (fun _ h9 => h9) rfl dX4_firstOpen_1 ?_
  refine lv_topi (fun x98 ex98 => ?_)
  refine lv_istore_n (lv' := [(1, .int x98), (0, .ref a)]) hx hb dX4_firstOpen_4 rfl hl (by decide) rfl (fun ls hl => ?_)
  refine wq_gen (fun Qz hQz => ?_)
  have hLP100 : ∀ (n : Nat) (y99 : Int32) (ls : Array Slot), ((I a 2).toInt - y99.toInt).toNat < n → lv_has ls 3 [(1, .int y99), (0, .ref a)] → W p l e (headSpec wsX4_firstOpen ({ frames := 3, cells := 0, slots := 0, locals := 67 })).room s m ([.ref a] : List Value).toArray below meth c s.heap [] 0 0 Qz (F0 m 5 ls []) := by
    intro n
    induction n with
    | zero => intro y99 ls hms; exact absurd hms (Nat.not_lt_zero _)
    | succ n ih =>
      intro y99 ls hms hl
      refine lv_iload_n hx hb dX4_firstOpen_5 rfl (lv_at hl 0 rfl) ?_
      refine lv_aload_n hx hb dX4_firstOpen_6 rfl (lv_at hl 1 rfl) ?_
      obtain ⟨j101, hj101⟩ := pG_4 (cy := cy) (N := N) (T := T) (I := I) (Q := Q) (J := J) ha hk
      refine va_get (D := (dC, dI)) (ci := 4) (v := .int (I a 2)) (C := RX4) (T := TX4) (N := 7) hx hb hts hi4 hown hK hP j101 hj101 rfl 2 (by decide) (hts (.fieldLink RX4 21 "TallyLogs$Replica" "end" "I") (by decide +kernel)) (fun _ h9 => h9) rfl dX4_firstOpen_7 ?_
      refine lv_topi (fun x102 ex102 => ?_)
      refine lv_icmp_ge (tgt := 47) hx hb dX4_firstOpen_10 (by decide) (fun c103 => ?_) (fun c103 => ?_)
      · refine lv_aload_n hx hb dX4_firstOpen_47 rfl (lv_at hl 1 rfl) ?_
        obtain ⟨j104, hj104⟩ := pG_4 (cy := cy) (N := N) (T := T) (I := I) (Q := Q) (J := J) ha hk
        refine va_get (D := (dC, dI)) (ci := 4) (v := .int (I a 2)) (C := RX4) (T := TX4) (N := 7) hx hb hts hi4 hown hK hP j104 hj104 rfl 2 (by decide) (hts (.fieldLink RX4 21 "TallyLogs$Replica" "end" "I") (by decide +kernel)) (fun _ h9 => h9) rfl dX4_firstOpen_48 ?_
        refine lv_topi (fun x105 ex105 => ?_)
        rw [hQz]
        exact W.iret (v := x105) hx hb hr (fun t ht hW => ⟨x105, rfl, trivial, ht⟩) (fun _ h => by cases h) dX4_firstOpen_51
      · refine lv_aload_n hx hb dX4_firstOpen_13 rfl (lv_at hl 1 rfl) ?_
        refine lv_iload_n hx hb dX4_firstOpen_14 rfl (lv_at hl 0 rfl) ?_
        obtain ⟨j107, hj107⟩ := pG_4 (cy := cy) (N := N) (T := T) (I := I) (Q := Q) (J := J) ha hk
        refine va_csq (W.runV (As := [.int y99]) (rest := []) ⟨hx, hb, hml, hown, hts⟩ (c_X4_entryAt l dC dI cy v L K N T I Q J a y99 hC ha hk) (cwV 1 hts gX4_firstOpen_X4_entryAt rfl rfl rfl (by decide +kernel) ⟨Nat.le_of_ble_eq_true rfl, Nat.le_of_ble_eq_true rfl⟩) ⟨pb_blind, va_recv hK hP (ci := 4) (q0 := j107) rfl hj107, fun U hU hW => ⟨rfl, pb_pre hP hK hN hU hW⟩⟩ rfl rfl hl.1 rfl (lv_room (Nat.le_of_ble_eq_true rfl)) dX4_firstOpen_15 ⟨Nat.le_of_ble_eq_true rfl, Nat.le_of_ble_eq_true rfl⟩) (fun r106 hr106 => ?_)
        cases r106 with
        | none =>
          refine W.eq (g2 := F0 m 18 ls [.null]) rfl ?_
          refine lv_astore_nN (lv' := [(2, .null), (1, .int y99), (0, .ref a)]) hx hb dX4_firstOpen_18 rfl hl (by decide) rfl (fun ls hl => ?_)
          refine lv_aload_nN hx hb dX4_firstOpen_19 rfl (lv_at hl 0 rfl) ?_
          refine lv_ifnullN (tgt := 41) hx hb dX4_firstOpen_20 (by decide) ?_
          obtain ⟨v109, ev109⟩ : ∃ y : Int32, y = y99 + Int32.ofInt 1 := ⟨_, rfl⟩
          refine lv_iinc (v := v109) (lv' := [(1, .int v109), (2, .null), (0, .ref a)]) hx hb dX4_firstOpen_41 hl (k := 1) rfl ev109.symm (by decide) rfl (fun ls hl => ?_)
          refine lv_goto (tgt := 5) hx hb dX4_firstOpen_44 (by decide) ?_
          exact ih _ _ (by have kc := c103; rw [ex102] at kc; simp only [xk_le, xk_lt] at kc; have h9 := xinc (x := y99) (y := I a 2) (by rw [xk_lt]; omega); rw [ev109, show y99 + Int32.ofInt 1 = y99 + 1 from rfl, h9]; omega) (lv_sub hl [0, 2] rfl)
        | some b108 =>
          have hTb108 := hr106 b108 rfl
          refine W.eq (g2 := F0 m 18 ls [.ref b108]) rfl ?_
          refine lv_astore_n (lv' := [(2, .ref b108), (1, .int y99), (0, .ref a)]) hx hb dX4_firstOpen_18 rfl hl (by decide) rfl (fun ls hl => ?_)
          refine lv_aload_n hx hb dX4_firstOpen_19 rfl (lv_at hl 0 rfl) ?_
          refine lv_ifnull hx hb dX4_firstOpen_20 ?_
          refine lv_aload_n hx hb dX4_firstOpen_23 rfl (lv_at hl 0 rfl) ?_
          obtain ⟨j110, hj110⟩ := pG_0 (cy := cy) (N := N) (T := T) (I := I) (Q := Q) (J := J) hTb108.1 hTb108.2
          refine va_get (D := (dC, dI)) (ci := 0) (v := .int (I b108 7)) (C := RX0) (T := TX0) (N := 8) hx hb hts hi0 hown hK hP j110 hj110 rfl 7 (by decide) (hts (.fieldLink RX4 85 "TallyLogs$Entry" "bound" "Z") (by decide +kernel)) (fun _ h9 => h9) rfl dX4_firstOpen_24 ?_
          refine lv_topi (fun x111 ex111 => ?_)
          refine lv_if_eq (tgt := 41) hx hb dX4_firstOpen_27 (by decide) (fun c112 => ?_) (fun c112 => ?_)
          · obtain ⟨v113, ev113⟩ : ∃ y : Int32, y = y99 + Int32.ofInt 1 := ⟨_, rfl⟩
            refine lv_iinc (v := v113) (lv' := [(1, .int v113), (2, .ref b108), (0, .ref a)]) hx hb dX4_firstOpen_41 hl (k := 1) rfl ev113.symm (by decide) rfl (fun ls hl => ?_)
            refine lv_goto (tgt := 5) hx hb dX4_firstOpen_44 (by decide) ?_
            exact ih _ _ (by have kc := c103; rw [ex102] at kc; simp only [xk_le, xk_lt] at kc; have h9 := xinc (x := y99) (y := I a 2) (by rw [xk_lt]; omega); rw [ev113, show y99 + Int32.ofInt 1 = y99 + 1 from rfl, h9]; omega) (lv_sub hl [0, 2] rfl)
          · refine lv_aload_n hx hb dX4_firstOpen_30 rfl (lv_at hl 2 rfl) ?_
            refine lv_aload_n hx hb dX4_firstOpen_31 rfl (lv_at hl 0 rfl) ?_
            refine lv_iload_n hx hb dX4_firstOpen_32 rfl (lv_at hl 1 rfl) ?_
            obtain ⟨j115, hj115⟩ := pG_4 (cy := cy) (N := N) (T := T) (I := I) (Q := Q) (J := J) ha hk
            refine vp_callSi (W.runV (As := [.ref b108, .int y99]) (rest := []) ⟨hx, hb, hml, hown, hts⟩ (c_X4_endKindOf l dC dI cy v L K N T I Q J a b108 y99 hC ha hk hTb108.1 hTb108.2) (cwV 2 hts gX4_firstOpen_X4_endKindOf rfl rfl rfl (by decide +kernel) ⟨Nat.le_of_ble_eq_true rfl, Nat.le_of_ble_eq_true rfl⟩) ⟨pb_blind, va_recv hK hP (ci := 4) (q0 := j115) rfl hj115, fun U hU hW => ⟨rfl, pb_pre hP hK hN hU hW⟩⟩ rfl rfl hl.1 rfl (lv_room (Nat.le_of_ble_eq_true rfl)) dX4_firstOpen_33 ⟨Nat.le_of_ble_eq_true rfl, Nat.le_of_ble_eq_true rfl⟩) (fun r114 hr114 => ?_)
            refine lv_if_ne (tgt := 41) hx hb dX4_firstOpen_36 (by decide) (fun c116 => ?_) (fun c116 => ?_)
            · obtain ⟨v117, ev117⟩ : ∃ y : Int32, y = y99 + Int32.ofInt 1 := ⟨_, rfl⟩
              refine lv_iinc (v := v117) (lv' := [(1, .int v117), (2, .ref b108), (0, .ref a)]) hx hb dX4_firstOpen_41 hl (k := 1) rfl ev117.symm (by decide) rfl (fun ls hl => ?_)
              refine lv_goto (tgt := 5) hx hb dX4_firstOpen_44 (by decide) ?_
              exact ih _ _ (by have kc := c103; rw [ex102] at kc; simp only [xk_le, xk_lt] at kc; have h9 := xinc (x := y99) (y := I a 2) (by rw [xk_lt]; omega); rw [ev117, show y99 + Int32.ofInt 1 = y99 + 1 from rfl, h9]; omega) (lv_sub hl [0, 2] rfl)
            · refine lv_iload_n hx hb dX4_firstOpen_39 rfl (lv_at hl 1 rfl) ?_
              rw [hQz]
              exact W.iret (v := y99) hx hb hr (fun t ht hW => ⟨y99, rfl, trivial, ht⟩) (fun _ h => by cases h) dX4_firstOpen_40
  exact hLP100 _ _ _ (Nat.lt_succ_self _) (lv_sub hl [0, 1] rfl)
set_option maxHeartbeats 4000000 in
set_option maxRecDepth 100000 in
/-- Replica.isAborted -/
theorem c_X4_isAborted (l : Launch) (dC : Nat → ClassId) (dI : Nat → Nat → Nat) (cy : Nat → ClassId) (v : Nat → Nat) (L : List Nat) (K N : Nat → Nat) (T : Nat → Nat → Nat) (I : Nat → Nat → Int32) (Q : Nat → Nat → Option Nat) (J : Nat → Nat → Int32) (a : Nat) (eb : Nat) (xo : Int32) (hC : CT v L K N T I Q) (ha : a ∈ L) (hk : K a = 4) (hb0 : eb ∈ L) (hkb : K eb = 0) : Met l yX4_isAborted wsX4_isAborted ({ frames := 3, cells := 0, slots := 0, locals := 67 }) (va_Pc [.ref a, .ref eb, .int xo] (pB dC dI cy L (pF cy K N T I Q J))) (vp_Si (fun r => True)) 0 0 (fun _ => False) := by
  refine Met.ofW (cc := cX4_isAborted) (maxL := 3) (ret := (some .boolean)) (by decide) rfl ?_
  intro p e s m args below meth c s₁ B hml hv
  obtain ⟨rfl, hP, hK, hN⟩ := hv
  have hx := B.exec
  have hb := B.bytes
  have hr := B.returns
  have hts := atoms_spec (ws := wsX4_isAborted) B.pre
  have hown : s.vm.findClass RX4 = some m.cls := findClass_of_methodNamed B.named
  have hlocks := B.notSynchronized
  have hi4 : ∀ w ∈ wsX40, w ∈ wsX4_isAborted := by decide +kernel
  have hi0 : ∀ w ∈ wsX00, w ∈ wsX4_isAborted := by decide +kernel
  have hl := lv_entry ([.ref a, .ref eb, .int xo]) (n := 3) (Nat.le_of_ble_eq_true rfl)
  rw [lg_entry_eq]
  generalize (lg_sl ([.ref a, .ref eb, .int xo]) ++ List.replicate (3 - (lg_sl ([.ref a, .ref eb, .int xo])).length) Slot.unset).toArray = ls at hl ⊢
  have hl : lv_has ls 3 [(0, .ref a), (1, .ref eb), (2, .int xo)] := hl
  have hn28 := hN.1
  have hn30 := hN.2.1
  have hn37 := hN.2.2.1
  refine lv_aload_n hx hb dX4_isAborted_0 rfl (lv_at hl 1 rfl) ?_
  obtain ⟨j118, hj118⟩ := pG_0 (cy := cy) (N := N) (T := T) (I := I) (Q := Q) (J := J) hb0 hkb
  refine va_get (D := (dC, dI)) (ci := 0) (v := .int (I eb 7)) (C := RX0) (T := TX0) (N := 8) hx hb hts hi0 hown hK hP j118 hj118 rfl 7 (by decide) (hts (.fieldLink RX4 85 "TallyLogs$Entry" "bound" "Z") (by decide +kernel)) (fun _ h9 => h9) rfl dX4_isAborted_1 ?_
  refine lv_topi (fun x119 ex119 => ?_)
  refine lv_if_eq (tgt := 21) hx hb dX4_isAborted_4 (by decide) (fun c120 => ?_) (fun c120 => ?_)
  · refine lv_iconst (v := 0) hx hb dX4_isAborted_21 (by decide) ?_
    exact W.zret (v := 0) hx hb hr (by decide) (fun t ht hW => ⟨0, rfl, trivial, ht⟩) (fun _ h => by cases h) dX4_isAborted_22
  · refine lv_aload_n hx hb dX4_isAborted_7 rfl (lv_at hl 0 rfl) ?_
    refine lv_aload_n hx hb dX4_isAborted_8 rfl (lv_at hl 1 rfl) ?_
    refine lv_iload_n hx hb dX4_isAborted_9 rfl (lv_at hl 2 rfl) ?_
    obtain ⟨j122, hj122⟩ := pG_4 (cy := cy) (N := N) (T := T) (I := I) (Q := Q) (J := J) ha hk
    refine vp_callSi (W.runV (As := [.ref eb, .int xo]) (rest := []) ⟨hx, hb, hml, hown, hts⟩ (c_X4_endKindOf l dC dI cy v L K N T I Q J a eb xo hC ha hk hb0 hkb) (cwV 2 hts gX4_isAborted_X4_endKindOf rfl rfl rfl (by decide +kernel) ⟨Nat.le_of_ble_eq_true rfl, Nat.le_of_ble_eq_true rfl⟩) ⟨pb_blind, va_recv hK hP (ci := 4) (q0 := j122) rfl hj122, fun U hU hW => ⟨rfl, pb_pre hP hK hN hU hW⟩⟩ rfl rfl hl.1 rfl (lv_room (Nat.le_of_ble_eq_true rfl)) dX4_isAborted_10 ⟨Nat.le_of_ble_eq_true rfl, Nat.le_of_ble_eq_true rfl⟩) (fun r121 hr121 => ?_)
    refine lv_iconst (v := 2) hx hb dX4_isAborted_13 (by decide) ?_
    refine lv_icmp_ne (tgt := 21) hx hb dX4_isAborted_14 (by decide) (fun c123 => ?_) (fun c123 => ?_)
    · refine lv_iconst (v := 0) hx hb dX4_isAborted_21 (by decide) ?_
      exact W.zret (v := 0) hx hb hr (by decide) (fun t ht hW => ⟨0, rfl, trivial, ht⟩) (fun _ h => by cases h) dX4_isAborted_22
    · refine lv_iconst (v := 1) hx hb dX4_isAborted_17 (by decide) ?_
      refine lv_goto (tgt := 22) hx hb dX4_isAborted_18 (by decide) ?_
      exact W.zret (v := 1) hx hb hr (by decide) (fun t ht hW => ⟨1, rfl, trivial, ht⟩) (fun _ h => by cases h) dX4_isAborted_22
end
section
theorem xmax0 {x y z : Int32} (h : z = if x < y then y else x) (hx : 0 ≤ x.toInt) : 0 ≤ z.toInt := by
  subst h
  by_cases q : x < y
  · rw [if_pos q]; rw [xk_lt] at q; omega
  · rw [if_neg q]; exact hx
set_option maxHeartbeats 4000000 in
set_option maxRecDepth 100000 in
/-- Replica.dropBefore -/
theorem c_X4_dropBefore (l : Launch) (dC : Nat → ClassId) (dI : Nat → Nat → Nat) (cy : Nat → ClassId) (v : Nat → Nat) (L : List Nat) (K N : Nat → Nat) (T : Nat → Nat → Nat) (I : Nat → Nat → Int32) (Q : Nat → Nat → Option Nat) (J : Nat → Nat → Int32) (sz : Nat) (a : Nat) (xo : Int32) (hC : CT v L K N T I Q) (ha : a ∈ L) (hk : K a = 4) : Met l yX4_dropBefore wsX4_dropBefore ({ frames := 1, cells := 0, slots := 0, locals := 21 }) (va_Pc [.ref a, .int xo] (pW dC dI cy L (pF cy K N T I Q J) sz)) (va_Qv (fun d : (Nat → Nat → Int32) × (Nat → Nat → Option Nat) × (Nat → Nat → Int32) => CT v L K N T d.1 d.2.1 ∧ RS v I Q J d.1 d.2.1 d.2.2) (fun (d : (Nat → Nat → Int32) × (Nat → Nat → Option Nat) × (Nat → Nat → Int32)) t => va_P (dC, dI) vwCl (va_pl L (pF cy K N T d.1 d.2.1 d.2.2)) t.heap ∧ va_K (dC, dI) vwCl (pTy cy) t ∧ va_D (va_A (va_pl L (pF cy K N T I Q J)) sz) (va_pl L (pF cy K N T d.1 d.2.1 d.2.2))) (va_A (va_pl L (pF cy K N T I Q J)) sz)) 0 0 (va_A (va_pl L (pF cy K N T I Q J)) sz) := by
  refine Met.ofW (cc := cX4_dropBefore) (maxL := 2) (ret := none) (by decide) rfl ?_
  intro p e s m args below meth c s₁ B hml hv
  obtain ⟨rfl, hsz, ⟨hP, hK, hN⟩, hD0⟩ := hv
  have hx := B.exec
  have hb := B.bytes
  have hr := B.returns
  have hts := atoms_spec (ws := wsX4_dropBefore) B.pre
  have hown : s.vm.findClass RX4 = some m.cls := findClass_of_methodNamed B.named
  have hlocks := B.notSynchronized
  have hi4 : ∀ w ∈ wsX40, w ∈ wsX4_dropBefore := by decide +kernel
  have hl := lv_entry ([.ref a, .int xo]) (n := 2) (Nat.le_of_ble_eq_true rfl)
  rw [lg_entry_eq]
  generalize (lg_sl ([.ref a, .int xo]) ++ List.replicate (2 - (lg_sl ([.ref a, .int xo])).length) Slot.unset).toArray = ls at hl ⊢
  have hl : lv_has ls 2 [(0, .ref a), (1, .int xo)] := hl
  subst hsz
  have hD := hD0.self (sz := s.heap.size)
  generalize hAe : va_A (va_pl L (pF cy K N T I Q J)) s.heap.size = A at hD ⊢
  have hA : ∀ q : Nat, s.heap.size ≤ q → A q := fun q h => by rw [← hAe]; exact Or.inr h
  have hS : va_S A s.heap s.heap [] := va_S.rf
  have hR : RS v I Q J I Q J := RS.rf
  have hn28 := hN.1
  have hn30 := hN.2.1
  have hn37 := hN.2.2.1
  refine lv_aload_n hx hb dX4_dropBefore_0 rfl (lv_at hl 0 rfl) ?_
  refine lv_aload_n hx hb dX4_dropBefore_1 rfl (lv_at hl 0 rfl) ?_
  obtain ⟨j124, hj124⟩ := pG_4 (cy := cy) (N := N) (T := T) (I := I) (Q := Q) (J := J) ha hk
  refine va_get (D := (dC, dI)) (ci := 4) (v := .int (I a 1)) (C := RX4) (T := TX4) (N := 7) hx hb hts hi4 hown hK hP j124 hj124 rfl 1 (by decide) (hts (.fieldLink RX4 17 "TallyLogs$Replica" "start" "I") (by decide +kernel)) (fun _ h9 => h9) rfl dX4_dropBefore_2 ?_
  refine lv_topi (fun x125 ex125 => ?_)
  refine lv_iload_n hx hb dX4_dropBefore_5 rfl (lv_at hl 1 rfl) ?_
  refine va_mmax hx hb (by rw [hml]; exact hl.1.symm) hown (hts (.methodLink RX4 46 Lib.Math.max.name) (by decide +kernel)) (hts (.static Lib.Math.max.name) (by decide +kernel)) (hts (.initialized "java/lang/Math") (by decide +kernel)) (hts _ (List.mem_of_getElem? (i := 5) rfl)) (Nat.le_of_ble_eq_true rfl) (Nat.le_of_ble_eq_true rfl) (Nat.le_of_ble_eq_true rfl) (Nat.le_of_ble_eq_true rfl) dX4_dropBefore_6 ?_
  refine lv_topi (fun z126 ez126 => ?_)
  obtain ⟨j127, hj127⟩ := pG_4 (cy := cy) (N := N) (T := T) (I := I) (Q := Q) (J := J) ha hk
  have hDo := hD
  refine va_put (D := (dC, dI)) (ci := 4) (v := .int z126) (ty := .int) (C := RX4) (T := TX4) (N := 7) hx hb hts hi4 tyX4 tyX4_ok nmX4 hown hK hP hD hS j127 hj127 rfl 1 (by decide) (hts (.fieldLink RX4 17 "TallyLogs$Replica" "start" "I") (by decide +kernel)) (fun _ h9 => h9) rfl (by decide +kernel) rfl rfl (Nat.le_of_ble_eq_true rfl) dX4_dropBefore_9 (fun H locs hP hD hS => ?_)
  have hP := Eq.mp (congrArg (fun w => va_P (dC, dI) vwCl w H) (pP_4_1 (x := z126) hDo ha hk hj127)) hP
  obtain ⟨I128, eI128⟩ : ∃ z, z = p2 I a 1 z126 := ⟨_, rfl⟩
  rw [← eI128] at hP
  have hR : RS v I Q J I128 Q J := by rw [eI128]; exact hR.pi hC (by rw [hk]; decide)
  have hC : CT v L K N T I128 Q := by rw [eI128]; exact hC.ps (xmax0 ez126 (by rw [ex125]; exact hC.2.2.2.2.2.2.2.1 a ha hk))
  have hD : va_D A (va_pl L (pF cy K N T I128 Q J)) := pD hDo
  refine lv_aload_n hx hb dX4_dropBefore_12 rfl (lv_at hl 0 rfl) ?_
  refine lv_aload_n hx hb dX4_dropBefore_13 rfl (lv_at hl 0 rfl) ?_
  obtain ⟨j129, hj129⟩ := pG_4 (cy := cy) (N := N) (T := T) (I := I128) (Q := Q) (J := J) ha hk
  refine va_get (D := (dC, dI)) (ci := 4) (v := .int (I128 a 4)) (C := RX4) (T := TX4) (N := 7) hx hb hts hi4 hown hK hP j129 hj129 rfl 4 (by decide) (hts (.fieldLink RX4 27 "TallyLogs$Replica" "flushed" "I") (by decide +kernel)) (fun _ h9 => h9) rfl dX4_dropBefore_14 ?_
  refine lv_topi (fun x130 ex130 => ?_)
  refine lv_aload_n hx hb dX4_dropBefore_17 rfl (lv_at hl 0 rfl) ?_
  obtain ⟨j131, hj131⟩ := pG_4 (cy := cy) (N := N) (T := T) (I := I128) (Q := Q) (J := J) ha hk
  refine va_get (D := (dC, dI)) (ci := 4) (v := .int (I128 a 1)) (C := RX4) (T := TX4) (N := 7) hx hb hts hi4 hown hK hP j131 hj131 rfl 1 (by decide) (hts (.fieldLink RX4 17 "TallyLogs$Replica" "start" "I") (by decide +kernel)) (fun _ h9 => h9) rfl dX4_dropBefore_18 ?_
  refine lv_topi (fun x132 ex132 => ?_)
  refine va_mmax hx hb (by rw [hml]; exact hl.1.symm) hown (hts (.methodLink RX4 46 Lib.Math.max.name) (by decide +kernel)) (hts (.static Lib.Math.max.name) (by decide +kernel)) (hts (.initialized "java/lang/Math") (by decide +kernel)) (hts _ (List.mem_of_getElem? (i := 5) rfl)) (Nat.le_of_ble_eq_true rfl) (Nat.le_of_ble_eq_true rfl) (Nat.le_of_ble_eq_true rfl) (Nat.le_of_ble_eq_true rfl) dX4_dropBefore_21 ?_
  refine lv_topi (fun z133 ez133 => ?_)
  obtain ⟨j134, hj134⟩ := pG_4 (cy := cy) (N := N) (T := T) (I := I128) (Q := Q) (J := J) ha hk
  have hDo := hD
  refine va_put (D := (dC, dI)) (ci := 4) (v := .int z133) (ty := .int) (C := RX4) (T := TX4) (N := 7) hx hb hts hi4 tyX4 tyX4_ok nmX4 hown hK hP hD hS j134 hj134 rfl 4 (by decide) (hts (.fieldLink RX4 27 "TallyLogs$Replica" "flushed" "I") (by decide +kernel)) (fun _ h9 => h9) rfl (by decide +kernel) rfl rfl (Nat.le_of_ble_eq_true rfl) dX4_dropBefore_24 (fun H locs hP hD hS => ?_)
  have hP := Eq.mp (congrArg (fun w => va_P (dC, dI) vwCl w H) (pP_4_4 (x := z133) hDo ha hk hj134)) hP
  obtain ⟨I135, eI135⟩ : ∃ z, z = p2 I128 a 4 z133 := ⟨_, rfl⟩
  rw [← eI135] at hP
  have hR : RS v I Q J I135 Q J := by rw [eI135]; exact hR.pi hC (by rw [hk]; decide)
  have hC : CT v L K N T I135 Q := by rw [eI135]; exact hC.pi (by rw [hk]; decide)
  have hD : va_D A (va_pl L (pF cy K N T I135 Q J)) := pD hDo
  exact W.vret hx hb hr (fun t ht hW => ⟨⟨(I135, Q, J), rfl, ⟨hC, hR⟩, by rw [ht]; exact hP, va_K.moved hW.alike hK, hD⟩, hS.F ht⟩) hS.2.2 dX4_dropBefore_27
set_option maxHeartbeats 4000000 in
set_option maxRecDepth 100000 in
/-- Replica.loseUnflushed -/
theorem c_X4_loseUnflushed (l : Launch) (dC : Nat → ClassId) (dI : Nat → Nat → Nat) (cy : Nat → ClassId) (v : Nat → Nat) (L : List Nat) (K N : Nat → Nat) (T : Nat → Nat → Nat) (I : Nat → Nat → Int32) (Q : Nat → Nat → Option Nat) (J : Nat → Nat → Int32) (sz : Nat) (a : Nat) (xk : Int32) (hC : CT v L K N T I Q) (ha : a ∈ L) (hk : K a = 4) : Met l yX4_loseUnflushed wsX4_loseUnflushed ({ frames := 1, cells := 0, slots := 0, locals := 21 }) (va_Pc [.ref a, .int xk] (pW dC dI cy L (pF cy K N T I Q J) sz)) (va_Qv (fun d : (Nat → Nat → Int32) × (Nat → Nat → Option Nat) × (Nat → Nat → Int32) => CT v L K N T d.1 d.2.1 ∧ RS v I Q J d.1 d.2.1 d.2.2) (fun (d : (Nat → Nat → Int32) × (Nat → Nat → Option Nat) × (Nat → Nat → Int32)) t => va_P (dC, dI) vwCl (va_pl L (pF cy K N T d.1 d.2.1 d.2.2)) t.heap ∧ va_K (dC, dI) vwCl (pTy cy) t ∧ va_D (va_A (va_pl L (pF cy K N T I Q J)) sz) (va_pl L (pF cy K N T d.1 d.2.1 d.2.2))) (va_A (va_pl L (pF cy K N T I Q J)) sz)) 0 0 (va_A (va_pl L (pF cy K N T I Q J)) sz) := by
  refine Met.ofW (cc := cX4_loseUnflushed) (maxL := 2) (ret := none) (by decide) rfl ?_
  intro p e s m args below meth c s₁ B hml hv
  obtain ⟨rfl, hsz, ⟨hP, hK, hN⟩, hD0⟩ := hv
  have hx := B.exec
  have hb := B.bytes
  have hr := B.returns
  have hts := atoms_spec (ws := wsX4_loseUnflushed) B.pre
  have hown : s.vm.findClass RX4 = some m.cls := findClass_of_methodNamed B.named
  have hlocks := B.notSynchronized
  have hi4 : ∀ w ∈ wsX40, w ∈ wsX4_loseUnflushed := by decide +kernel
  have hl := lv_entry ([.ref a, .int xk]) (n := 2) (Nat.le_of_ble_eq_true rfl)
  rw [lg_entry_eq]
  generalize (lg_sl ([.ref a, .int xk]) ++ List.replicate (2 - (lg_sl ([.ref a, .int xk])).length) Slot.unset).toArray = ls at hl ⊢
  have hl : lv_has ls 2 [(0, .ref a), (1, .int xk)] := hl
  subst hsz
  have hD := hD0.self (sz := s.heap.size)
  generalize hAe : va_A (va_pl L (pF cy K N T I Q J)) s.heap.size = A at hD ⊢
  have hA : ∀ q : Nat, s.heap.size ≤ q → A q := fun q h => by rw [← hAe]; exact Or.inr h
  have hS : va_S A s.heap s.heap [] := va_S.rf
  have hR : RS v I Q J I Q J := RS.rf
  have hn28 := hN.1
  have hn30 := hN.2.1
  have hn37 := hN.2.2.1
  refine lv_aload_n hx hb dX4_loseUnflushed_0 rfl (lv_at hl 0 rfl) ?_
  refine lv_aload_n hx hb dX4_loseUnflushed_1 rfl (lv_at hl 0 rfl) ?_
  obtain ⟨j136, hj136⟩ := pG_4 (cy := cy) (N := N) (T := T) (I := I) (Q := Q) (J := J) ha hk
  refine va_get (D := (dC, dI)) (ci := 4) (v := .int (I a 4)) (C := RX4) (T := TX4) (N := 7) hx hb hts hi4 hown hK hP j136 hj136 rfl 4 (by decide) (hts (.fieldLink RX4 27 "TallyLogs$Replica" "flushed" "I") (by decide +kernel)) (fun _ h9 => h9) rfl dX4_loseUnflushed_2 ?_
  refine lv_topi (fun x137 ex137 => ?_)
  refine lv_iload_n hx hb dX4_loseUnflushed_5 rfl (lv_at hl 1 rfl) ?_
  refine lv_aload_n hx hb dX4_loseUnflushed_6 rfl (lv_at hl 0 rfl) ?_
  obtain ⟨j138, hj138⟩ := pG_4 (cy := cy) (N := N) (T := T) (I := I) (Q := Q) (J := J) ha hk
  refine va_get (D := (dC, dI)) (ci := 4) (v := .int (I a 2)) (C := RX4) (T := TX4) (N := 7) hx hb hts hi4 hown hK hP j138 hj138 rfl 2 (by decide) (hts (.fieldLink RX4 21 "TallyLogs$Replica" "end" "I") (by decide +kernel)) (fun _ h9 => h9) rfl dX4_loseUnflushed_7 ?_
  refine lv_topi (fun x139 ex139 => ?_)
  refine lv_aload_n hx hb dX4_loseUnflushed_10 rfl (lv_at hl 0 rfl) ?_
  obtain ⟨j140, hj140⟩ := pG_4 (cy := cy) (N := N) (T := T) (I := I) (Q := Q) (J := J) ha hk
  refine va_get (D := (dC, dI)) (ci := 4) (v := .int (I a 4)) (C := RX4) (T := TX4) (N := 7) hx hb hts hi4 hown hK hP j140 hj140 rfl 4 (by decide) (hts (.fieldLink RX4 27 "TallyLogs$Replica" "flushed" "I") (by decide +kernel)) (fun _ h9 => h9) rfl dX4_loseUnflushed_11 ?_
  refine lv_topi (fun x141 ex141 => ?_)
  refine lv_isub hx hb dX4_loseUnflushed_14 ?_
  refine lv_topi (fun v142 ev142 => ?_)
  refine va_mmin hx hb (by rw [hml]; exact hl.1.symm) hown (hts (.methodLink RX4 49 Lib.Math.min.name) (by decide +kernel)) (hts (.static Lib.Math.min.name) (by decide +kernel)) (hts (.initialized "java/lang/Math") (by decide +kernel)) (hts _ (List.mem_of_getElem? (i := 6) rfl)) (Nat.le_of_ble_eq_true rfl) (Nat.le_of_ble_eq_true rfl) (Nat.le_of_ble_eq_true rfl) (Nat.le_of_ble_eq_true rfl) dX4_loseUnflushed_15 ?_
  refine lv_topi (fun z143 ez143 => ?_)
  refine lv_iadd hx hb dX4_loseUnflushed_18 ?_
  refine lv_topi (fun v144 ev144 => ?_)
  obtain ⟨j145, hj145⟩ := pG_4 (cy := cy) (N := N) (T := T) (I := I) (Q := Q) (J := J) ha hk
  have hDo := hD
  refine va_put (D := (dC, dI)) (ci := 4) (v := .int v144) (ty := .int) (C := RX4) (T := TX4) (N := 7) hx hb hts hi4 tyX4 tyX4_ok nmX4 hown hK hP hD hS j145 hj145 rfl 2 (by decide) (hts (.fieldLink RX4 21 "TallyLogs$Replica" "end" "I") (by decide +kernel)) (fun _ h9 => h9) rfl (by decide +kernel) rfl rfl (Nat.le_of_ble_eq_true rfl) dX4_loseUnflushed_19 (fun H locs hP hD hS => ?_)
  have hP := Eq.mp (congrArg (fun w => va_P (dC, dI) vwCl w H) (pP_4_2 (x := v144) hDo ha hk hj145)) hP
  obtain ⟨I146, eI146⟩ : ∃ z, z = p2 I a 2 v144 := ⟨_, rfl⟩
  rw [← eI146] at hP
  have hR : RS v I Q J I146 Q J := by rw [eI146]; exact hR.pi hC (by rw [hk]; decide)
  have hC : CT v L K N T I146 Q := by rw [eI146]; exact hC.pi (by rw [hk]; decide)
  have hD : va_D A (va_pl L (pF cy K N T I146 Q J)) := pD hDo
  refine lv_aload_n hx hb dX4_loseUnflushed_22 rfl (lv_at hl 0 rfl) ?_
  refine lv_aload_n hx hb dX4_loseUnflushed_23 rfl (lv_at hl 0 rfl) ?_
  obtain ⟨j147, hj147⟩ := pG_4 (cy := cy) (N := N) (T := T) (I := I146) (Q := Q) (J := J) ha hk
  refine va_get (D := (dC, dI)) (ci := 4) (v := .int (I146 a 3)) (C := RX4) (T := TX4) (N := 7) hx hb hts hi4 hown hK hP j147 hj147 rfl 3 (by decide) (hts (.fieldLink RX4 24 "TallyLogs$Replica" "hw" "I") (by decide +kernel)) (fun _ h9 => h9) rfl dX4_loseUnflushed_24 ?_
  refine lv_topi (fun x148 ex148 => ?_)
  refine lv_aload_n hx hb dX4_loseUnflushed_27 rfl (lv_at hl 0 rfl) ?_
  obtain ⟨j149, hj149⟩ := pG_4 (cy := cy) (N := N) (T := T) (I := I146) (Q := Q) (J := J) ha hk
  refine va_get (D := (dC, dI)) (ci := 4) (v := .int (I146 a 2)) (C := RX4) (T := TX4) (N := 7) hx hb hts hi4 hown hK hP j149 hj149 rfl 2 (by decide) (hts (.fieldLink RX4 21 "TallyLogs$Replica" "end" "I") (by decide +kernel)) (fun _ h9 => h9) rfl dX4_loseUnflushed_28 ?_
  refine lv_topi (fun x150 ex150 => ?_)
  refine va_mmin hx hb (by rw [hml]; exact hl.1.symm) hown (hts (.methodLink RX4 49 Lib.Math.min.name) (by decide +kernel)) (hts (.static Lib.Math.min.name) (by decide +kernel)) (hts (.initialized "java/lang/Math") (by decide +kernel)) (hts _ (List.mem_of_getElem? (i := 6) rfl)) (Nat.le_of_ble_eq_true rfl) (Nat.le_of_ble_eq_true rfl) (Nat.le_of_ble_eq_true rfl) (Nat.le_of_ble_eq_true rfl) dX4_loseUnflushed_31 ?_
  refine lv_topi (fun z151 ez151 => ?_)
  obtain ⟨j152, hj152⟩ := pG_4 (cy := cy) (N := N) (T := T) (I := I146) (Q := Q) (J := J) ha hk
  have hDo := hD
  refine va_put (D := (dC, dI)) (ci := 4) (v := .int z151) (ty := .int) (C := RX4) (T := TX4) (N := 7) hx hb hts hi4 tyX4 tyX4_ok nmX4 hown hK hP hD hS j152 hj152 rfl 3 (by decide) (hts (.fieldLink RX4 24 "TallyLogs$Replica" "hw" "I") (by decide +kernel)) (fun _ h9 => h9) rfl (by decide +kernel) rfl rfl (Nat.le_of_ble_eq_true rfl) dX4_loseUnflushed_34 (fun H locs hP hD hS => ?_)
  have hP := Eq.mp (congrArg (fun w => va_P (dC, dI) vwCl w H) (pP_4_3 (x := z151) hDo ha hk hj152)) hP
  obtain ⟨I153, eI153⟩ : ∃ z, z = p2 I146 a 3 z151 := ⟨_, rfl⟩
  rw [← eI153] at hP
  have hR : RS v I Q J I153 Q J := by rw [eI153]; exact hR.pi hC (by rw [hk]; decide)
  have hC : CT v L K N T I153 Q := by rw [eI153]; exact hC.pi (by rw [hk]; decide)
  have hD : va_D A (va_pl L (pF cy K N T I153 Q J)) := pD hDo
  exact W.vret hx hb hr (fun t ht hW => ⟨⟨(I153, Q, J), rfl, ⟨hC, hR⟩, by rw [ht]; exact hP, va_K.moved hW.alike hK, hD⟩, hS.F ht⟩) hS.2.2 dX4_loseUnflushed_37
set_option maxHeartbeats 4000000 in
set_option maxRecDepth 100000 in
/-- Replica.append of an Entry -/
theorem c_X4_append (l : Launch) (dC : Nat → ClassId) (dI : Nat → Nat → Nat) (cy : Nat → ClassId) (v : Nat → Nat) (L : List Nat) (K N : Nat → Nat) (T : Nat → Nat → Nat) (I : Nat → Nat → Int32) (Q : Nat → Nat → Option Nat) (J : Nat → Nat → Int32) (sz : Nat) (a : Nat) (eb : Nat) (hC : CT v L K N T I Q) (ha : a ∈ L) (hk : K a = 4) (hb0 : eb ∈ L) (hkb : K eb = 0) : Met l yX4_append wsX4_append ({ frames := 1, cells := 0, slots := 0, locals := 22 }) (va_Pc [.ref a, .ref eb] (pW dC dI cy L (pF cy K N T I Q J) sz)) (va_Qv (fun d : (Nat → Nat → Int32) × (Nat → Nat → Option Nat) × (Nat → Nat → Int32) => CT v L K N T d.1 d.2.1 ∧ RS v I Q J d.1 d.2.1 d.2.2) (fun (d : (Nat → Nat → Int32) × (Nat → Nat → Option Nat) × (Nat → Nat → Int32)) t => va_P (dC, dI) vwCl (va_pl L (pF cy K N T d.1 d.2.1 d.2.2)) t.heap ∧ va_K (dC, dI) vwCl (pTy cy) t ∧ va_D (va_A (va_pl L (pF cy K N T I Q J)) sz) (va_pl L (pF cy K N T d.1 d.2.1 d.2.2))) (va_A (va_pl L (pF cy K N T I Q J)) sz)) 0 0 (va_A (va_pl L (pF cy K N T I Q J)) sz) := by
  refine Met.ofW (cc := cX4_append) (maxL := 2) (ret := none) (by decide) rfl ?_
  intro p e s m args below meth c s₁ B hml hv
  obtain ⟨rfl, hsz, ⟨hP, hK, hN⟩, hD0⟩ := hv
  have hx := B.exec
  have hb := B.bytes
  have hr := B.returns
  have hts := atoms_spec (ws := wsX4_append) B.pre
  have hown : s.vm.findClass RX4 = some m.cls := findClass_of_methodNamed B.named
  have hlocks := B.notSynchronized
  have hi4 : ∀ w ∈ wsX40, w ∈ wsX4_append := by decide +kernel
  have hl := lv_entry ([.ref a, .ref eb]) (n := 2) (Nat.le_of_ble_eq_true rfl)
  rw [lg_entry_eq]
  generalize (lg_sl ([.ref a, .ref eb]) ++ List.replicate (2 - (lg_sl ([.ref a, .ref eb])).length) Slot.unset).toArray = ls at hl ⊢
  have hl : lv_has ls 2 [(0, .ref a), (1, .ref eb)] := hl
  subst hsz
  have hD := hD0.self (sz := s.heap.size)
  generalize hAe : va_A (va_pl L (pF cy K N T I Q J)) s.heap.size = A at hD ⊢
  have hA : ∀ q : Nat, s.heap.size ≤ q → A q := fun q h => by rw [← hAe]; exact Or.inr h
  have hS : va_S A s.heap s.heap [] := va_S.rf
  have hR : RS v I Q J I Q J := RS.rf
  have hn28 := hN.1
  have hn30 := hN.2.1
  have hn37 := hN.2.2.1
  refine lv_aload_n hx hb dX4_append_0 rfl (lv_at hl 0 rfl) ?_
  obtain ⟨j154, hj154⟩ := pG_4 (cy := cy) (N := N) (T := T) (I := I) (Q := Q) (J := J) ha hk
  refine va_get (D := (dC, dI)) (ci := 4) (v := .ref (T a 0)) (C := RX4) (T := TX4) (N := 7) hx hb hts hi4 hown hK hP j154 hj154 rfl 0 (by decide) (hts (.fieldLink RX4 11 "TallyLogs$Replica" "slots" "[LTallyLogs$Entry;") (by decide +kernel)) (fun _ h9 => h9) rfl dX4_append_1 ?_
  obtain ⟨t155, et155⟩ : ∃ t, t = T a 0 := ⟨_, rfl⟩
  have hLt155 : t155 ∈ L := by rw [et155]; exact (hC.2.2.2.2.2.2.1 a ha hk).1
  have hkt155 : K t155 = 8 := by rw [et155]; exact (hC.2.2.2.2.2.2.1 a ha hk).2
  refine W.eq (g2 := F0 m 4 ls [.ref t155]) (by rw [et155]) ?_
  refine lv_aload_n hx hb dX4_append_4 rfl (lv_at hl 0 rfl) ?_
  obtain ⟨j156, hj156⟩ := pG_4 (cy := cy) (N := N) (T := T) (I := I) (Q := Q) (J := J) ha hk
  refine va_get (D := (dC, dI)) (ci := 4) (v := .int (I a 2)) (C := RX4) (T := TX4) (N := 7) hx hb hts hi4 hown hK hP j156 hj156 rfl 2 (by decide) (hts (.fieldLink RX4 21 "TallyLogs$Replica" "end" "I") (by decide +kernel)) (fun _ h9 => h9) rfl dX4_append_5 ?_
  refine lv_topi (fun x157 ex157 => ?_)
  refine lv_bipush (v := 60) hx hb dX4_append_8 (by decide) ?_
  refine vp_callSi (W.runS (As := [.int x157, .int 60]) (rest := [.ref t155]) ⟨hx, hb, hml, hown, hts⟩ (c_J9_floorMod_7cf53 l x157) (va_cwS 2 hts gX4_append_J9_floorMod_7cf53 rfl rfl rfl (by decide +kernel) ⟨Nat.le_of_ble_eq_true rfl, Nat.le_of_ble_eq_true rfl⟩) preEq rfl rfl hl.1 rfl (lv_room (Nat.le_of_ble_eq_true rfl)) dX4_append_10 ⟨Nat.le_of_ble_eq_true rfl, Nat.le_of_ble_eq_true rfl⟩) (fun r158 hr158 => ?_)
  have hinr158 : vp_in r158 60 := by rw [hr158]; exact sp_fm_in _
  refine lv_aload_n hx hb dX4_append_13 rfl (lv_at hl 1 rfl) ?_
  obtain ⟨j159, hj159⟩ := pG_8 (cy := cy) (N := N) (T := T) (I := I) (Q := Q) (J := J) hLt155 hkt155
  have hDo := hD
  obtain ⟨j160, hj160⟩ := pG_0 (cy := cy) (N := N) (T := T) (I := I) (Q := Q) (J := J) hb0 hkb
  refine va_astq hx hb hK hP hD hS j159 1 j160 0 hj159 rfl hj160 rfl hinr158 dX4_append_14 (fun H locs hP hD hS => ?_)
  have hP := Eq.mp (congrArg (fun w => va_P (dC, dI) vwCl w H) (pS_8 (x := (some eb)) hDo hLt155 hkt155 hj159)) hP
  obtain ⟨Q161, eQ161⟩ : ∃ z, z = p2 Q t155 r158.toNatClampNeg (some eb) := ⟨_, rfl⟩
  rw [← eQ161] at hP
  have hR : RS v I Q J I Q161 J := by rw [eQ161]; exact hR.pq hC (by rw [hkt155]; decide)
  have hC : CT v L K N T I Q161 := by rw [eQ161]; exact hC.q8 hkt155 (fun b hb => by cases hb; exact ⟨hb0, hkb⟩)
  have hD : va_D A (va_pl L (pF cy K N T I Q161 J)) := pD hDo
  refine lv_aload_n hx hb dX4_append_15 rfl (lv_at hl 0 rfl) ?_
  refine lv_dup hx hb dX4_append_16 rfl ?_
  obtain ⟨j162, hj162⟩ := pG_4 (cy := cy) (N := N) (T := T) (I := I) (Q := Q161) (J := J) ha hk
  refine va_get (D := (dC, dI)) (ci := 4) (v := .int (I a 2)) (C := RX4) (T := TX4) (N := 7) hx hb hts hi4 hown hK hP j162 hj162 rfl 2 (by decide) (hts (.fieldLink RX4 21 "TallyLogs$Replica" "end" "I") (by decide +kernel)) (fun _ h9 => h9) rfl dX4_append_17 ?_
  refine lv_topi (fun x163 ex163 => ?_)
  refine lv_iconst (v := 1) hx hb dX4_append_20 (by decide) ?_
  refine lv_iadd hx hb dX4_append_21 ?_
  refine lv_topi (fun v164 ev164 => ?_)
  obtain ⟨j165, hj165⟩ := pG_4 (cy := cy) (N := N) (T := T) (I := I) (Q := Q161) (J := J) ha hk
  have hDo := hD
  refine va_put (D := (dC, dI)) (ci := 4) (v := .int v164) (ty := .int) (C := RX4) (T := TX4) (N := 7) hx hb hts hi4 tyX4 tyX4_ok nmX4 hown hK hP hD hS j165 hj165 rfl 2 (by decide) (hts (.fieldLink RX4 21 "TallyLogs$Replica" "end" "I") (by decide +kernel)) (fun _ h9 => h9) rfl (by decide +kernel) rfl rfl (Nat.le_of_ble_eq_true rfl) dX4_append_22 (fun H locs hP hD hS => ?_)
  have hP := Eq.mp (congrArg (fun w => va_P (dC, dI) vwCl w H) (pP_4_2 (x := v164) hDo ha hk hj165)) hP
  obtain ⟨I166, eI166⟩ : ∃ z, z = p2 I a 2 v164 := ⟨_, rfl⟩
  rw [← eI166] at hP
  have hR : RS v I Q J I166 Q161 J := by rw [eI166]; exact hR.pi hC (by rw [hk]; decide)
  have hC : CT v L K N T I166 Q161 := by rw [eI166]; exact hC.pi (by rw [hk]; decide)
  have hD : va_D A (va_pl L (pF cy K N T I166 Q161 J)) := pD hDo
  exact W.vret hx hb hr (fun t ht hW => ⟨⟨(I166, Q161, J), rfl, ⟨hC, hR⟩, by rw [ht]; exact hP, va_K.moved hW.alike hK, hD⟩, hS.F ht⟩) hS.2.2 dX4_append_25
set_option maxHeartbeats 4000000 in
set_option maxRecDepth 100000 in
/-- Replica.append of null -/
theorem c_X4_append0 (l : Launch) (dC : Nat → ClassId) (dI : Nat → Nat → Nat) (cy : Nat → ClassId) (v : Nat → Nat) (L : List Nat) (K N : Nat → Nat) (T : Nat → Nat → Nat) (I : Nat → Nat → Int32) (Q : Nat → Nat → Option Nat) (J : Nat → Nat → Int32) (sz : Nat) (a : Nat)  (hC : CT v L K N T I Q) (ha : a ∈ L) (hk : K a = 4) : Met l yX4_append wsX4_append ({ frames := 1, cells := 0, slots := 0, locals := 22 }) (va_Pc [.ref a, .null] (pW dC dI cy L (pF cy K N T I Q J) sz)) (va_Qv (fun d : (Nat → Nat → Int32) × (Nat → Nat → Option Nat) × (Nat → Nat → Int32) => CT v L K N T d.1 d.2.1 ∧ RS v I Q J d.1 d.2.1 d.2.2) (fun (d : (Nat → Nat → Int32) × (Nat → Nat → Option Nat) × (Nat → Nat → Int32)) t => va_P (dC, dI) vwCl (va_pl L (pF cy K N T d.1 d.2.1 d.2.2)) t.heap ∧ va_K (dC, dI) vwCl (pTy cy) t ∧ va_D (va_A (va_pl L (pF cy K N T I Q J)) sz) (va_pl L (pF cy K N T d.1 d.2.1 d.2.2))) (va_A (va_pl L (pF cy K N T I Q J)) sz)) 0 0 (va_A (va_pl L (pF cy K N T I Q J)) sz) := by
  refine Met.ofW (cc := cX4_append) (maxL := 2) (ret := none) (by decide) rfl ?_
  intro p e s m args below meth c s₁ B hml hv
  obtain ⟨rfl, hsz, ⟨hP, hK, hN⟩, hD0⟩ := hv
  have hx := B.exec
  have hb := B.bytes
  have hr := B.returns
  have hts := atoms_spec (ws := wsX4_append) B.pre
  have hown : s.vm.findClass RX4 = some m.cls := findClass_of_methodNamed B.named
  have hlocks := B.notSynchronized
  have hi4 : ∀ w ∈ wsX40, w ∈ wsX4_append := by decide +kernel
  have hl := lv_entry ([.ref a, .null]) (n := 2) (Nat.le_of_ble_eq_true rfl)
  rw [lg_entry_eq]
  generalize (lg_sl ([.ref a, .null]) ++ List.replicate (2 - (lg_sl ([.ref a, .null])).length) Slot.unset).toArray = ls at hl ⊢
  have hl : lv_has ls 2 [(0, .ref a), (1, .null)] := hl
  subst hsz
  have hD := hD0.self (sz := s.heap.size)
  generalize hAe : va_A (va_pl L (pF cy K N T I Q J)) s.heap.size = A at hD ⊢
  have hA : ∀ q : Nat, s.heap.size ≤ q → A q := fun q h => by rw [← hAe]; exact Or.inr h
  have hS : va_S A s.heap s.heap [] := va_S.rf
  have hR : RS v I Q J I Q J := RS.rf
  have hn28 := hN.1
  have hn30 := hN.2.1
  have hn37 := hN.2.2.1
  refine lv_aload_n hx hb dX4_append_0 rfl (lv_at hl 0 rfl) ?_
  obtain ⟨j167, hj167⟩ := pG_4 (cy := cy) (N := N) (T := T) (I := I) (Q := Q) (J := J) ha hk
  refine va_get (D := (dC, dI)) (ci := 4) (v := .ref (T a 0)) (C := RX4) (T := TX4) (N := 7) hx hb hts hi4 hown hK hP j167 hj167 rfl 0 (by decide) (hts (.fieldLink RX4 11 "TallyLogs$Replica" "slots" "[LTallyLogs$Entry;") (by decide +kernel)) (fun _ h9 => h9) rfl dX4_append_1 ?_
  obtain ⟨t168, et168⟩ : ∃ t, t = T a 0 := ⟨_, rfl⟩
  have hLt168 : t168 ∈ L := by rw [et168]; exact (hC.2.2.2.2.2.2.1 a ha hk).1
  have hkt168 : K t168 = 8 := by rw [et168]; exact (hC.2.2.2.2.2.2.1 a ha hk).2
  refine W.eq (g2 := F0 m 4 ls [.ref t168]) (by rw [et168]) ?_
  refine lv_aload_n hx hb dX4_append_4 rfl (lv_at hl 0 rfl) ?_
  obtain ⟨j169, hj169⟩ := pG_4 (cy := cy) (N := N) (T := T) (I := I) (Q := Q) (J := J) ha hk
  refine va_get (D := (dC, dI)) (ci := 4) (v := .int (I a 2)) (C := RX4) (T := TX4) (N := 7) hx hb hts hi4 hown hK hP j169 hj169 rfl 2 (by decide) (hts (.fieldLink RX4 21 "TallyLogs$Replica" "end" "I") (by decide +kernel)) (fun _ h9 => h9) rfl dX4_append_5 ?_
  refine lv_topi (fun x170 ex170 => ?_)
  refine lv_bipush (v := 60) hx hb dX4_append_8 (by decide) ?_
  refine vp_callSi (W.runS (As := [.int x170, .int 60]) (rest := [.ref t168]) ⟨hx, hb, hml, hown, hts⟩ (c_J9_floorMod_7cf53 l x170) (va_cwS 2 hts gX4_append_J9_floorMod_7cf53 rfl rfl rfl (by decide +kernel) ⟨Nat.le_of_ble_eq_true rfl, Nat.le_of_ble_eq_true rfl⟩) preEq rfl rfl hl.1 rfl (lv_room (Nat.le_of_ble_eq_true rfl)) dX4_append_10 ⟨Nat.le_of_ble_eq_true rfl, Nat.le_of_ble_eq_true rfl⟩) (fun r171 hr171 => ?_)
  have hinr171 : vp_in r171 60 := by rw [hr171]; exact sp_fm_in _
  refine lv_aload_nN hx hb dX4_append_13 rfl (lv_at hl 1 rfl) ?_
  obtain ⟨j172, hj172⟩ := pG_8 (cy := cy) (N := N) (T := T) (I := I) (Q := Q) (J := J) hLt168 hkt168
  have hDo := hD
  refine va_astqN hx hb hK hP hD hS j172 1 hj172 rfl hinr171 dX4_append_14 (fun H locs hP hD hS => ?_)
  have hP := Eq.mp (congrArg (fun w => va_P (dC, dI) vwCl w H) (pS_8 (x := none) hDo hLt168 hkt168 hj172)) hP
  obtain ⟨Q173, eQ173⟩ : ∃ z, z = p2 Q t168 r171.toNatClampNeg none := ⟨_, rfl⟩
  rw [← eQ173] at hP
  have hR : RS v I Q J I Q173 J := by rw [eQ173]; exact hR.pq hC (by rw [hkt168]; decide)
  have hC : CT v L K N T I Q173 := by rw [eQ173]; exact hC.q8 hkt168 (fun b hb => by cases hb)
  have hD : va_D A (va_pl L (pF cy K N T I Q173 J)) := pD hDo
  refine lv_aload_n hx hb dX4_append_15 rfl (lv_at hl 0 rfl) ?_
  refine lv_dup hx hb dX4_append_16 rfl ?_
  obtain ⟨j174, hj174⟩ := pG_4 (cy := cy) (N := N) (T := T) (I := I) (Q := Q173) (J := J) ha hk
  refine va_get (D := (dC, dI)) (ci := 4) (v := .int (I a 2)) (C := RX4) (T := TX4) (N := 7) hx hb hts hi4 hown hK hP j174 hj174 rfl 2 (by decide) (hts (.fieldLink RX4 21 "TallyLogs$Replica" "end" "I") (by decide +kernel)) (fun _ h9 => h9) rfl dX4_append_17 ?_
  refine lv_topi (fun x175 ex175 => ?_)
  refine lv_iconst (v := 1) hx hb dX4_append_20 (by decide) ?_
  refine lv_iadd hx hb dX4_append_21 ?_
  refine lv_topi (fun v176 ev176 => ?_)
  obtain ⟨j177, hj177⟩ := pG_4 (cy := cy) (N := N) (T := T) (I := I) (Q := Q173) (J := J) ha hk
  have hDo := hD
  refine va_put (D := (dC, dI)) (ci := 4) (v := .int v176) (ty := .int) (C := RX4) (T := TX4) (N := 7) hx hb hts hi4 tyX4 tyX4_ok nmX4 hown hK hP hD hS j177 hj177 rfl 2 (by decide) (hts (.fieldLink RX4 21 "TallyLogs$Replica" "end" "I") (by decide +kernel)) (fun _ h9 => h9) rfl (by decide +kernel) rfl rfl (Nat.le_of_ble_eq_true rfl) dX4_append_22 (fun H locs hP hD hS => ?_)
  have hP := Eq.mp (congrArg (fun w => va_P (dC, dI) vwCl w H) (pP_4_2 (x := v176) hDo ha hk hj177)) hP
  obtain ⟨I178, eI178⟩ : ∃ z, z = p2 I a 2 v176 := ⟨_, rfl⟩
  rw [← eI178] at hP
  have hR : RS v I Q J I178 Q173 J := by rw [eI178]; exact hR.pi hC (by rw [hk]; decide)
  have hC : CT v L K N T I178 Q173 := by rw [eI178]; exact hC.pi (by rw [hk]; decide)
  have hD : va_D A (va_pl L (pF cy K N T I178 Q173 J)) := pD hDo
  exact W.vret hx hb hr (fun t ht hW => ⟨⟨(I178, Q173, J), rfl, ⟨hC, hR⟩, by rw [ht]; exact hP, va_K.moved hW.alike hK, hD⟩, hS.F ht⟩) hS.2.2 dX4_append_25
end
section
set_option maxHeartbeats 4000000 in
set_option maxRecDepth 100000 in
/-- Replica.agreeWith -/
theorem c_X4_agreeWith (l : Launch) (dC : Nat → ClassId) (dI : Nat → Nat → Nat) (cy : Nat → ClassId) (v : Nat → Nat) (L : List Nat) (K N : Nat → Nat) (T : Nat → Nat → Nat) (I : Nat → Nat → Int32) (Q : Nat → Nat → Option Nat) (J : Nat → Nat → Int32) (sz : Nat) (a : Nat) (rb : Nat) (hC : CT v L K N T I Q) (ha : a ∈ L) (hk : K a = 4) (hb4 : rb ∈ L) (hkb : K rb = 4) : Met l yX4_agreeWith wsX4_agreeWith ({ frames := 3, cells := 0, slots := 0, locals := 67 }) (va_Pc [.ref a, .ref rb] (pW dC dI cy L (pF cy K N T I Q J) sz)) (va_Qv (fun d : (Nat → Nat → Int32) × (Nat → Nat → Option Nat) × (Nat → Nat → Int32) => CT v L K N T d.1 d.2.1 ∧ RS v I Q J d.1 d.2.1 d.2.2) (fun (d : (Nat → Nat → Int32) × (Nat → Nat → Option Nat) × (Nat → Nat → Int32)) t => va_P (dC, dI) vwCl (va_pl L (pF cy K N T d.1 d.2.1 d.2.2)) t.heap ∧ va_K (dC, dI) vwCl (pTy cy) t ∧ va_D (va_A (va_pl L (pF cy K N T I Q J)) sz) (va_pl L (pF cy K N T d.1 d.2.1 d.2.2))) (va_A (va_pl L (pF cy K N T I Q J)) sz)) 0 0 (va_A (va_pl L (pF cy K N T I Q J)) sz) := by
  refine Met.ofW (cc := cX4_agreeWith) (maxL := 3) (ret := none) (by decide) rfl ?_
  intro p e s m args below meth c s₁ B hml hv
  obtain ⟨rfl, hsz, ⟨hP, hK, hN⟩, hD0⟩ := hv
  have hx := B.exec
  have hb := B.bytes
  have hr := B.returns
  have hts := atoms_spec (ws := wsX4_agreeWith) B.pre
  have hown : s.vm.findClass RX4 = some m.cls := findClass_of_methodNamed B.named
  have hlocks := B.notSynchronized
  have hi4 : ∀ w ∈ wsX40, w ∈ wsX4_agreeWith := by decide +kernel
  have hl := lv_entry ([.ref a, .ref rb]) (n := 3) (Nat.le_of_ble_eq_true rfl)
  rw [lg_entry_eq]
  generalize (lg_sl ([.ref a, .ref rb]) ++ List.replicate (3 - (lg_sl ([.ref a, .ref rb])).length) Slot.unset).toArray = ls at hl ⊢
  have hl : lv_has ls 3 [(0, .ref a), (1, .ref rb)] := hl
  subst hsz
  have hD := hD0.self (sz := s.heap.size)
  generalize hAe : va_A (va_pl L (pF cy K N T I Q J)) s.heap.size = A at hD ⊢
  have hA : ∀ q : Nat, s.heap.size ≤ q → A q := fun q h => by rw [← hAe]; exact Or.inr h
  have hS : va_S A s.heap s.heap [] := va_S.rf
  have hR : RS v I Q J I Q J := RS.rf
  have hn28 := hN.1
  have hn30 := hN.2.1
  have hn37 := hN.2.2.1
  refine lv_aload_n hx hb dX4_agreeWith_0 rfl (lv_at hl 0 rfl) ?_
  obtain ⟨j179, hj179⟩ := pG_4 (cy := cy) (N := N) (T := T) (I := I) (Q := Q) (J := J) ha hk
  refine va_get (D := (dC, dI)) (ci := 4) (v := .int (I a 2)) (C := RX4) (T := TX4) (N := 7) hx hb hts hi4 hown hK hP j179 hj179 rfl 2 (by decide) (hts (.fieldLink RX4 21 "TallyLogs$Replica" "end" "I") (by decide +kernel)) (fun _ h9 => h9) rfl dX4_agreeWith_1 ?_
  refine lv_topi (fun x180 ex180 => ?_)
  refine lv_aload_n hx hb dX4_agreeWith_4 rfl (lv_at hl 1 rfl) ?_
  obtain ⟨j181, hj181⟩ := pG_4 (cy := cy) (N := N) (T := T) (I := I) (Q := Q) (J := J) hb4 hkb
  refine va_get (D := (dC, dI)) (ci := 4) (v := .int (I rb 1)) (C := RX4) (T := TX4) (N := 7) hx hb hts hi4 hown hK hP j181 hj181 rfl 1 (by decide) (hts (.fieldLink RX4 17 "TallyLogs$Replica" "start" "I") (by decide +kernel)) (fun _ h9 => h9) rfl dX4_agreeWith_5 ?_
  refine lv_topi (fun x182 ex182 => ?_)
  refine lv_icmp_ge (tgt := 27) hx hb dX4_agreeWith_8 (by decide) (fun c183 => ?_) (fun c183 => ?_)
  · refine lv_aload_n hx hb dX4_agreeWith_27 rfl (lv_at hl 0 rfl) ?_
    obtain ⟨j184, hj184⟩ := pG_4 (cy := cy) (N := N) (T := T) (I := I) (Q := Q) (J := J) ha hk
    refine va_get (D := (dC, dI)) (ci := 4) (v := .int (I a 1)) (C := RX4) (T := TX4) (N := 7) hx hb hts hi4 hown hK hP j184 hj184 rfl 1 (by decide) (hts (.fieldLink RX4 17 "TallyLogs$Replica" "start" "I") (by decide +kernel)) (fun _ h9 => h9) rfl dX4_agreeWith_28 ?_
    refine lv_topi (fun x185 ex185 => ?_)
    refine lv_aload_n hx hb dX4_agreeWith_31 rfl (lv_at hl 1 rfl) ?_
    obtain ⟨j186, hj186⟩ := pG_4 (cy := cy) (N := N) (T := T) (I := I) (Q := Q) (J := J) hb4 hkb
    refine va_get (D := (dC, dI)) (ci := 4) (v := .int (I rb 1)) (C := RX4) (T := TX4) (N := 7) hx hb hts hi4 hown hK hP j186 hj186 rfl 1 (by decide) (hts (.fieldLink RX4 17 "TallyLogs$Replica" "start" "I") (by decide +kernel)) (fun _ h9 => h9) rfl dX4_agreeWith_32 ?_
    refine lv_topi (fun x187 ex187 => ?_)
    refine va_mmax hx hb (by rw [hml]; exact hl.1.symm) hown (hts (.methodLink RX4 46 Lib.Math.max.name) (by decide +kernel)) (hts (.static Lib.Math.max.name) (by decide +kernel)) (hts (.initialized "java/lang/Math") (by decide +kernel)) (hts _ (List.mem_of_getElem? (i := 6) rfl)) (Nat.le_of_ble_eq_true rfl) (Nat.le_of_ble_eq_true rfl) (Nat.le_of_ble_eq_true rfl) (Nat.le_of_ble_eq_true rfl) dX4_agreeWith_35 ?_
    refine lv_topi (fun z188 ez188 => ?_)
    refine lv_istore_n (lv' := [(2, .int z188), (0, .ref a), (1, .ref rb)]) hx hb dX4_agreeWith_38 rfl hl (by decide) rfl (fun ls hl => ?_)
    refine wq_gen (fun Qz hQz => ?_)
    have hLP189 : ∀ (n : Nat) (y190 : Int32) (Ia189 : Nat → Nat → Int32) (Qa189 : Nat → Nat → Option Nat) (Ja189 : Nat → Nat → Int32) (H : Heap) (locs : List Loc) (ls : Array Slot), ((Ia189 a 2).toInt - y190.toInt).toNat < n → 0 ≤ y190.toInt → CT v L K N T Ia189 Qa189 → RS v I Q J Ia189 Qa189 Ja189 → va_P (dC, dI) vwCl (va_pl L (pF cy K N T Ia189 Qa189 Ja189)) H → va_D A (va_pl L (pF cy K N T Ia189 Qa189 Ja189)) → va_S A s.heap H locs → lv_has ls 3 [(2, .int y190), (0, .ref a), (1, .ref rb)] → W p l e (headSpec wsX4_agreeWith ({ frames := 3, cells := 0, slots := 0, locals := 67 })).room s m ([.ref a, .ref rb] : List Value).toArray below meth c H locs 0 0 Qz (F0 m 39 ls []) := by
      intro n
      induction n with
      | zero => intro y190 Ia189 Qa189 Ja189 H locs ls hms; exact absurd hms (Nat.not_lt_zero _)
      | succ n ih =>
        intro y190 Ia189 Qa189 Ja189 H locs ls hms hnn189 hC hR hP hD hS hl
        refine lv_iload_n hx hb dX4_agreeWith_39 rfl (lv_at hl 0 rfl) ?_
        refine lv_aload_n hx hb dX4_agreeWith_40 rfl (lv_at hl 1 rfl) ?_
        obtain ⟨j191, hj191⟩ := pG_4 (cy := cy) (N := N) (T := T) (I := Ia189) (Q := Qa189) (J := Ja189) ha hk
        refine va_get (D := (dC, dI)) (ci := 4) (v := .int (Ia189 a 2)) (C := RX4) (T := TX4) (N := 7) hx hb hts hi4 hown hK hP j191 hj191 rfl 2 (by decide) (hts (.fieldLink RX4 21 "TallyLogs$Replica" "end" "I") (by decide +kernel)) (fun _ h9 => h9) rfl dX4_agreeWith_41 ?_
        refine lv_topi (fun x192 ex192 => ?_)
        refine lv_icmp_ge (tgt := 62) hx hb dX4_agreeWith_44 (by decide) (fun c193 => ?_) (fun c193 => ?_)
        · refine lv_aload_n hx hb dX4_agreeWith_62 rfl (lv_at hl 1 rfl) ?_
          refine lv_iload_n hx hb dX4_agreeWith_63 rfl (lv_at hl 0 rfl) ?_
          obtain ⟨j194, hj194⟩ := pG_4 (cy := cy) (N := N) (T := T) (I := Ia189) (Q := Qa189) (J := Ja189) ha hk
          have hDo := hD
          refine va_put (D := (dC, dI)) (ci := 4) (v := .int y190) (ty := .int) (C := RX4) (T := TX4) (N := 7) hx hb hts hi4 tyX4 tyX4_ok nmX4 hown hK hP hD hS j194 hj194 rfl 2 (by decide) (hts (.fieldLink RX4 21 "TallyLogs$Replica" "end" "I") (by decide +kernel)) (fun _ h9 => h9) rfl (by decide +kernel) rfl rfl (Nat.le_of_ble_eq_true rfl) dX4_agreeWith_64 (fun H locs hP hD hS => ?_)
          have hP := Eq.mp (congrArg (fun w => va_P (dC, dI) vwCl w H) (pP_4_2 (x := y190) hDo ha hk hj194)) hP
          obtain ⟨I195, eI195⟩ : ∃ z, z = p2 Ia189 a 2 y190 := ⟨_, rfl⟩
          rw [← eI195] at hP
          have hR : RS v I Q J I195 Qa189 Ja189 := by rw [eI195]; exact hR.pi hC (by rw [hk]; decide)
          have hC : CT v L K N T I195 Qa189 := by rw [eI195]; exact hC.pi (by rw [hk]; decide)
          have hD : va_D A (va_pl L (pF cy K N T I195 Qa189 Ja189)) := pD hDo
          refine lv_aload_n hx hb dX4_agreeWith_67 rfl (lv_at hl 1 rfl) ?_
          refine lv_aload_n hx hb dX4_agreeWith_68 rfl (lv_at hl 1 rfl) ?_
          obtain ⟨j196, hj196⟩ := pG_4 (cy := cy) (N := N) (T := T) (I := I195) (Q := Qa189) (J := Ja189) ha hk
          refine va_get (D := (dC, dI)) (ci := 4) (v := .int (I195 a 4)) (C := RX4) (T := TX4) (N := 7) hx hb hts hi4 hown hK hP j196 hj196 rfl 4 (by decide) (hts (.fieldLink RX4 27 "TallyLogs$Replica" "flushed" "I") (by decide +kernel)) (fun _ h9 => h9) rfl dX4_agreeWith_69 ?_
          refine lv_topi (fun x197 ex197 => ?_)
          refine lv_aload_n hx hb dX4_agreeWith_72 rfl (lv_at hl 1 rfl) ?_
          obtain ⟨j198, hj198⟩ := pG_4 (cy := cy) (N := N) (T := T) (I := I195) (Q := Qa189) (J := Ja189) ha hk
          refine va_get (D := (dC, dI)) (ci := 4) (v := .int (I195 a 2)) (C := RX4) (T := TX4) (N := 7) hx hb hts hi4 hown hK hP j198 hj198 rfl 2 (by decide) (hts (.fieldLink RX4 21 "TallyLogs$Replica" "end" "I") (by decide +kernel)) (fun _ h9 => h9) rfl dX4_agreeWith_73 ?_
          refine lv_topi (fun x199 ex199 => ?_)
          refine va_mmin hx hb (by rw [hml]; exact hl.1.symm) hown (hts (.methodLink RX4 49 Lib.Math.min.name) (by decide +kernel)) (hts (.static Lib.Math.min.name) (by decide +kernel)) (hts (.initialized "java/lang/Math") (by decide +kernel)) (hts _ (List.mem_of_getElem? (i := 10) rfl)) (Nat.le_of_ble_eq_true rfl) (Nat.le_of_ble_eq_true rfl) (Nat.le_of_ble_eq_true rfl) (Nat.le_of_ble_eq_true rfl) dX4_agreeWith_76 ?_
          refine lv_topi (fun z200 ez200 => ?_)
          obtain ⟨j201, hj201⟩ := pG_4 (cy := cy) (N := N) (T := T) (I := I195) (Q := Qa189) (J := Ja189) ha hk
          have hDo := hD
          refine va_put (D := (dC, dI)) (ci := 4) (v := .int z200) (ty := .int) (C := RX4) (T := TX4) (N := 7) hx hb hts hi4 tyX4 tyX4_ok nmX4 hown hK hP hD hS j201 hj201 rfl 4 (by decide) (hts (.fieldLink RX4 27 "TallyLogs$Replica" "flushed" "I") (by decide +kernel)) (fun _ h9 => h9) rfl (by decide +kernel) rfl rfl (Nat.le_of_ble_eq_true rfl) dX4_agreeWith_79 (fun H locs hP hD hS => ?_)
          have hP := Eq.mp (congrArg (fun w => va_P (dC, dI) vwCl w H) (pP_4_4 (x := z200) hDo ha hk hj201)) hP
          obtain ⟨I202, eI202⟩ : ∃ z, z = p2 I195 a 4 z200 := ⟨_, rfl⟩
          rw [← eI202] at hP
          have hR : RS v I Q J I202 Qa189 Ja189 := by rw [eI202]; exact hR.pi hC (by rw [hk]; decide)
          have hC : CT v L K N T I202 Qa189 := by rw [eI202]; exact hC.pi (by rw [hk]; decide)
          have hD : va_D A (va_pl L (pF cy K N T I202 Qa189 Ja189)) := pD hDo
          rw [hQz]
          exact W.vret hx hb hr (fun t ht hW => ⟨⟨(I202, Qa189, Ja189), rfl, ⟨hC, hR⟩, by rw [ht]; exact hP, va_K.moved hW.alike hK, hD⟩, hS.F ht⟩) hS.2.2 dX4_agreeWith_82
        · refine lv_aload_n hx hb dX4_agreeWith_47 rfl (lv_at hl 1 rfl) ?_
          refine lv_iload_n hx hb dX4_agreeWith_48 rfl (lv_at hl 0 rfl) ?_
          refine lv_aload_n hx hb dX4_agreeWith_49 rfl (lv_at hl 2 rfl) ?_
          obtain ⟨j204, hj204⟩ := pG_4 (cy := cy) (N := N) (T := T) (I := Ia189) (Q := Qa189) (J := Ja189) ha hk
          refine vp_callSi (W.runV (As := [.int y190, .ref rb]) (rest := []) ⟨hx, hb, hml, hown, hts⟩ (c_X4_hasSameEpoch l dC dI cy v L K N T Ia189 Qa189 Ja189 a y190 rb hC ha hk hb4 hkb) (cwV 2 hts gX4_agreeWith_X4_hasSameEpoch rfl rfl rfl (by decide +kernel) ⟨Nat.le_of_ble_eq_true rfl, Nat.le_of_ble_eq_true rfl⟩) ⟨pb_blind, va_recv hK hP (ci := 4) (q0 := j204) rfl hj204, fun U hU hW => ⟨rfl, pb_pre hP hK hN hU hW⟩⟩ rfl rfl hl.1 rfl (lv_room (Nat.le_of_ble_eq_true rfl)) dX4_agreeWith_50 ⟨Nat.le_of_ble_eq_true rfl, Nat.le_of_ble_eq_true rfl⟩) (fun r203 hr203 => ?_)
          refine lv_if_eq (tgt := 62) hx hb dX4_agreeWith_53 (by decide) (fun c205 => ?_) (fun c205 => ?_)
          · refine lv_aload_n hx hb dX4_agreeWith_62 rfl (lv_at hl 1 rfl) ?_
            refine lv_iload_n hx hb dX4_agreeWith_63 rfl (lv_at hl 0 rfl) ?_
            obtain ⟨j206, hj206⟩ := pG_4 (cy := cy) (N := N) (T := T) (I := Ia189) (Q := Qa189) (J := Ja189) ha hk
            have hDo := hD
            refine va_put (D := (dC, dI)) (ci := 4) (v := .int y190) (ty := .int) (C := RX4) (T := TX4) (N := 7) hx hb hts hi4 tyX4 tyX4_ok nmX4 hown hK hP hD hS j206 hj206 rfl 2 (by decide) (hts (.fieldLink RX4 21 "TallyLogs$Replica" "end" "I") (by decide +kernel)) (fun _ h9 => h9) rfl (by decide +kernel) rfl rfl (Nat.le_of_ble_eq_true rfl) dX4_agreeWith_64 (fun H locs hP hD hS => ?_)
            have hP := Eq.mp (congrArg (fun w => va_P (dC, dI) vwCl w H) (pP_4_2 (x := y190) hDo ha hk hj206)) hP
            obtain ⟨I207, eI207⟩ : ∃ z, z = p2 Ia189 a 2 y190 := ⟨_, rfl⟩
            rw [← eI207] at hP
            have hR : RS v I Q J I207 Qa189 Ja189 := by rw [eI207]; exact hR.pi hC (by rw [hk]; decide)
            have hC : CT v L K N T I207 Qa189 := by rw [eI207]; exact hC.pi (by rw [hk]; decide)
            have hD : va_D A (va_pl L (pF cy K N T I207 Qa189 Ja189)) := pD hDo
            refine lv_aload_n hx hb dX4_agreeWith_67 rfl (lv_at hl 1 rfl) ?_
            refine lv_aload_n hx hb dX4_agreeWith_68 rfl (lv_at hl 1 rfl) ?_
            obtain ⟨j208, hj208⟩ := pG_4 (cy := cy) (N := N) (T := T) (I := I207) (Q := Qa189) (J := Ja189) ha hk
            refine va_get (D := (dC, dI)) (ci := 4) (v := .int (I207 a 4)) (C := RX4) (T := TX4) (N := 7) hx hb hts hi4 hown hK hP j208 hj208 rfl 4 (by decide) (hts (.fieldLink RX4 27 "TallyLogs$Replica" "flushed" "I") (by decide +kernel)) (fun _ h9 => h9) rfl dX4_agreeWith_69 ?_
            refine lv_topi (fun x209 ex209 => ?_)
            refine lv_aload_n hx hb dX4_agreeWith_72 rfl (lv_at hl 1 rfl) ?_
            obtain ⟨j210, hj210⟩ := pG_4 (cy := cy) (N := N) (T := T) (I := I207) (Q := Qa189) (J := Ja189) ha hk
            refine va_get (D := (dC, dI)) (ci := 4) (v := .int (I207 a 2)) (C := RX4) (T := TX4) (N := 7) hx hb hts hi4 hown hK hP j210 hj210 rfl 2 (by decide) (hts (.fieldLink RX4 21 "TallyLogs$Replica" "end" "I") (by decide +kernel)) (fun _ h9 => h9) rfl dX4_agreeWith_73 ?_
            refine lv_topi (fun x211 ex211 => ?_)
            refine va_mmin hx hb (by rw [hml]; exact hl.1.symm) hown (hts (.methodLink RX4 49 Lib.Math.min.name) (by decide +kernel)) (hts (.static Lib.Math.min.name) (by decide +kernel)) (hts (.initialized "java/lang/Math") (by decide +kernel)) (hts _ (List.mem_of_getElem? (i := 10) rfl)) (Nat.le_of_ble_eq_true rfl) (Nat.le_of_ble_eq_true rfl) (Nat.le_of_ble_eq_true rfl) (Nat.le_of_ble_eq_true rfl) dX4_agreeWith_76 ?_
            refine lv_topi (fun z212 ez212 => ?_)
            obtain ⟨j213, hj213⟩ := pG_4 (cy := cy) (N := N) (T := T) (I := I207) (Q := Qa189) (J := Ja189) ha hk
            have hDo := hD
            refine va_put (D := (dC, dI)) (ci := 4) (v := .int z212) (ty := .int) (C := RX4) (T := TX4) (N := 7) hx hb hts hi4 tyX4 tyX4_ok nmX4 hown hK hP hD hS j213 hj213 rfl 4 (by decide) (hts (.fieldLink RX4 27 "TallyLogs$Replica" "flushed" "I") (by decide +kernel)) (fun _ h9 => h9) rfl (by decide +kernel) rfl rfl (Nat.le_of_ble_eq_true rfl) dX4_agreeWith_79 (fun H locs hP hD hS => ?_)
            have hP := Eq.mp (congrArg (fun w => va_P (dC, dI) vwCl w H) (pP_4_4 (x := z212) hDo ha hk hj213)) hP
            obtain ⟨I214, eI214⟩ : ∃ z, z = p2 I207 a 4 z212 := ⟨_, rfl⟩
            rw [← eI214] at hP
            have hR : RS v I Q J I214 Qa189 Ja189 := by rw [eI214]; exact hR.pi hC (by rw [hk]; decide)
            have hC : CT v L K N T I214 Qa189 := by rw [eI214]; exact hC.pi (by rw [hk]; decide)
            have hD : va_D A (va_pl L (pF cy K N T I214 Qa189 Ja189)) := pD hDo
            rw [hQz]
            exact W.vret hx hb hr (fun t ht hW => ⟨⟨(I214, Qa189, Ja189), rfl, ⟨hC, hR⟩, by rw [ht]; exact hP, va_K.moved hW.alike hK, hD⟩, hS.F ht⟩) hS.2.2 dX4_agreeWith_82
          · obtain ⟨v215, ev215⟩ : ∃ y : Int32, y = y190 + Int32.ofInt 1 := ⟨_, rfl⟩
            refine lv_iinc (v := v215) (lv' := [(2, .int v215), (0, .ref a), (1, .ref rb)]) hx hb dX4_agreeWith_56 hl (k := 0) rfl ev215.symm (by decide) rfl (fun ls hl => ?_)
            refine lv_goto (tgt := 39) hx hb dX4_agreeWith_59 (by decide) ?_
            exact ih _ _ _ _ _ _ _ (by have kc := c193; rw [ex192] at kc; simp only [xk_le, xk_lt] at kc; have h9 := xinc (x := y190) (y := Ia189 a 2) (by rw [xk_lt]; omega); rw [ev215, show y190 + Int32.ofInt 1 = y190 + 1 from rfl, h9]; omega) (by have kc := c193; rw [ex192] at kc; simp only [xk_le, xk_lt] at kc; have h9 := xinc (x := y190) (y := Ia189 a 2) (by rw [xk_lt]; omega); rw [ev215, show y190 + Int32.ofInt 1 = y190 + 1 from rfl, h9]; omega) hC hR hP hD hS (lv_sub hl [0, 1, 2] rfl)
    exact hLP189 _ _ _ _ _ _ _ _ (Nat.lt_succ_self _) (xmax0 ez188 (by rw [ex185]; exact hC.2.2.2.2.2.2.2.1 a ha hk)) hC hR hP hD hS (lv_sub hl [0, 1, 2] rfl)
  · refine lv_aload_n hx hb dX4_agreeWith_11 rfl (lv_at hl 0 rfl) ?_
    refine lv_aload_n hx hb dX4_agreeWith_12 rfl (lv_at hl 1 rfl) ?_
    obtain ⟨j216, hj216⟩ := pG_4 (cy := cy) (N := N) (T := T) (I := I) (Q := Q) (J := J) hb4 hkb
    refine va_get (D := (dC, dI)) (ci := 4) (v := .int (I rb 1)) (C := RX4) (T := TX4) (N := 7) hx hb hts hi4 hown hK hP j216 hj216 rfl 1 (by decide) (hts (.fieldLink RX4 17 "TallyLogs$Replica" "start" "I") (by decide +kernel)) (fun _ h9 => h9) rfl dX4_agreeWith_13 ?_
    refine lv_topi (fun x217 ex217 => ?_)
    obtain ⟨j218, hj218⟩ := pG_4 (cy := cy) (N := N) (T := T) (I := I) (Q := Q) (J := J) ha hk
    have hDo := hD
    refine va_put (D := (dC, dI)) (ci := 4) (v := .int x217) (ty := .int) (C := RX4) (T := TX4) (N := 7) hx hb hts hi4 tyX4 tyX4_ok nmX4 hown hK hP hD hS j218 hj218 rfl 1 (by decide) (hts (.fieldLink RX4 17 "TallyLogs$Replica" "start" "I") (by decide +kernel)) (fun _ h9 => h9) rfl (by decide +kernel) rfl rfl (Nat.le_of_ble_eq_true rfl) dX4_agreeWith_16 (fun H locs hP hD hS => ?_)
    have hP := Eq.mp (congrArg (fun w => va_P (dC, dI) vwCl w H) (pP_4_1 (x := x217) hDo ha hk hj218)) hP
    obtain ⟨I219, eI219⟩ : ∃ z, z = p2 I a 1 x217 := ⟨_, rfl⟩
    rw [← eI219] at hP
    have hR : RS v I Q J I219 Q J := by rw [eI219]; exact hR.pi hC (by rw [hk]; decide)
    have hC : CT v L K N T I219 Q := by rw [eI219]; exact hC.ps (by rw [ex217]; exact hC.2.2.2.2.2.2.2.1 rb hb4 hkb)
    have hD : va_D A (va_pl L (pF cy K N T I219 Q J)) := pD hDo
    refine lv_aload_n hx hb dX4_agreeWith_19 rfl (lv_at hl 0 rfl) ?_
    refine lv_aload_n hx hb dX4_agreeWith_20 rfl (lv_at hl 1 rfl) ?_
    obtain ⟨j220, hj220⟩ := pG_4 (cy := cy) (N := N) (T := T) (I := I219) (Q := Q) (J := J) hb4 hkb
    refine va_get (D := (dC, dI)) (ci := 4) (v := .int (I219 rb 1)) (C := RX4) (T := TX4) (N := 7) hx hb hts hi4 hown hK hP j220 hj220 rfl 1 (by decide) (hts (.fieldLink RX4 17 "TallyLogs$Replica" "start" "I") (by decide +kernel)) (fun _ h9 => h9) rfl dX4_agreeWith_21 ?_
    refine lv_topi (fun x221 ex221 => ?_)
    obtain ⟨j222, hj222⟩ := pG_4 (cy := cy) (N := N) (T := T) (I := I219) (Q := Q) (J := J) ha hk
    have hDo := hD
    refine va_put (D := (dC, dI)) (ci := 4) (v := .int x221) (ty := .int) (C := RX4) (T := TX4) (N := 7) hx hb hts hi4 tyX4 tyX4_ok nmX4 hown hK hP hD hS j222 hj222 rfl 2 (by decide) (hts (.fieldLink RX4 21 "TallyLogs$Replica" "end" "I") (by decide +kernel)) (fun _ h9 => h9) rfl (by decide +kernel) rfl rfl (Nat.le_of_ble_eq_true rfl) dX4_agreeWith_24 (fun H locs hP hD hS => ?_)
    have hP := Eq.mp (congrArg (fun w => va_P (dC, dI) vwCl w H) (pP_4_2 (x := x221) hDo ha hk hj222)) hP
    obtain ⟨I223, eI223⟩ : ∃ z, z = p2 I219 a 2 x221 := ⟨_, rfl⟩
    rw [← eI223] at hP
    have hR : RS v I Q J I223 Q J := by rw [eI223]; exact hR.pi hC (by rw [hk]; decide)
    have hC : CT v L K N T I223 Q := by rw [eI223]; exact hC.pi (by rw [hk]; decide)
    have hD : va_D A (va_pl L (pF cy K N T I223 Q J)) := pD hDo
    refine lv_aload_n hx hb dX4_agreeWith_27 rfl (lv_at hl 0 rfl) ?_
    obtain ⟨j224, hj224⟩ := pG_4 (cy := cy) (N := N) (T := T) (I := I223) (Q := Q) (J := J) ha hk
    refine va_get (D := (dC, dI)) (ci := 4) (v := .int (I223 a 1)) (C := RX4) (T := TX4) (N := 7) hx hb hts hi4 hown hK hP j224 hj224 rfl 1 (by decide) (hts (.fieldLink RX4 17 "TallyLogs$Replica" "start" "I") (by decide +kernel)) (fun _ h9 => h9) rfl dX4_agreeWith_28 ?_
    refine lv_topi (fun x225 ex225 => ?_)
    refine lv_aload_n hx hb dX4_agreeWith_31 rfl (lv_at hl 1 rfl) ?_
    obtain ⟨j226, hj226⟩ := pG_4 (cy := cy) (N := N) (T := T) (I := I223) (Q := Q) (J := J) hb4 hkb
    refine va_get (D := (dC, dI)) (ci := 4) (v := .int (I223 rb 1)) (C := RX4) (T := TX4) (N := 7) hx hb hts hi4 hown hK hP j226 hj226 rfl 1 (by decide) (hts (.fieldLink RX4 17 "TallyLogs$Replica" "start" "I") (by decide +kernel)) (fun _ h9 => h9) rfl dX4_agreeWith_32 ?_
    refine lv_topi (fun x227 ex227 => ?_)
    refine va_mmax hx hb (by rw [hml]; exact hl.1.symm) hown (hts (.methodLink RX4 46 Lib.Math.max.name) (by decide +kernel)) (hts (.static Lib.Math.max.name) (by decide +kernel)) (hts (.initialized "java/lang/Math") (by decide +kernel)) (hts _ (List.mem_of_getElem? (i := 6) rfl)) (Nat.le_of_ble_eq_true rfl) (Nat.le_of_ble_eq_true rfl) (Nat.le_of_ble_eq_true rfl) (Nat.le_of_ble_eq_true rfl) dX4_agreeWith_35 ?_
    refine lv_topi (fun z228 ez228 => ?_)
    refine lv_istore_n (lv' := [(2, .int z228), (0, .ref a), (1, .ref rb)]) hx hb dX4_agreeWith_38 rfl hl (by decide) rfl (fun ls hl => ?_)
    refine wq_gen (fun Qz hQz => ?_)
    have hLP229 : ∀ (n : Nat) (y230 : Int32) (Ia229 : Nat → Nat → Int32) (Qa229 : Nat → Nat → Option Nat) (Ja229 : Nat → Nat → Int32) (H : Heap) (locs : List Loc) (ls : Array Slot), ((Ia229 a 2).toInt - y230.toInt).toNat < n → 0 ≤ y230.toInt → CT v L K N T Ia229 Qa229 → RS v I Q J Ia229 Qa229 Ja229 → va_P (dC, dI) vwCl (va_pl L (pF cy K N T Ia229 Qa229 Ja229)) H → va_D A (va_pl L (pF cy K N T Ia229 Qa229 Ja229)) → va_S A s.heap H locs → lv_has ls 3 [(2, .int y230), (0, .ref a), (1, .ref rb)] → W p l e (headSpec wsX4_agreeWith ({ frames := 3, cells := 0, slots := 0, locals := 67 })).room s m ([.ref a, .ref rb] : List Value).toArray below meth c H locs 0 0 Qz (F0 m 39 ls []) := by
      intro n
      induction n with
      | zero => intro y230 Ia229 Qa229 Ja229 H locs ls hms; exact absurd hms (Nat.not_lt_zero _)
      | succ n ih =>
        intro y230 Ia229 Qa229 Ja229 H locs ls hms hnn229 hC hR hP hD hS hl
        refine lv_iload_n hx hb dX4_agreeWith_39 rfl (lv_at hl 0 rfl) ?_
        refine lv_aload_n hx hb dX4_agreeWith_40 rfl (lv_at hl 1 rfl) ?_
        obtain ⟨j231, hj231⟩ := pG_4 (cy := cy) (N := N) (T := T) (I := Ia229) (Q := Qa229) (J := Ja229) ha hk
        refine va_get (D := (dC, dI)) (ci := 4) (v := .int (Ia229 a 2)) (C := RX4) (T := TX4) (N := 7) hx hb hts hi4 hown hK hP j231 hj231 rfl 2 (by decide) (hts (.fieldLink RX4 21 "TallyLogs$Replica" "end" "I") (by decide +kernel)) (fun _ h9 => h9) rfl dX4_agreeWith_41 ?_
        refine lv_topi (fun x232 ex232 => ?_)
        refine lv_icmp_ge (tgt := 62) hx hb dX4_agreeWith_44 (by decide) (fun c233 => ?_) (fun c233 => ?_)
        · refine lv_aload_n hx hb dX4_agreeWith_62 rfl (lv_at hl 1 rfl) ?_
          refine lv_iload_n hx hb dX4_agreeWith_63 rfl (lv_at hl 0 rfl) ?_
          obtain ⟨j234, hj234⟩ := pG_4 (cy := cy) (N := N) (T := T) (I := Ia229) (Q := Qa229) (J := Ja229) ha hk
          have hDo := hD
          refine va_put (D := (dC, dI)) (ci := 4) (v := .int y230) (ty := .int) (C := RX4) (T := TX4) (N := 7) hx hb hts hi4 tyX4 tyX4_ok nmX4 hown hK hP hD hS j234 hj234 rfl 2 (by decide) (hts (.fieldLink RX4 21 "TallyLogs$Replica" "end" "I") (by decide +kernel)) (fun _ h9 => h9) rfl (by decide +kernel) rfl rfl (Nat.le_of_ble_eq_true rfl) dX4_agreeWith_64 (fun H locs hP hD hS => ?_)
          have hP := Eq.mp (congrArg (fun w => va_P (dC, dI) vwCl w H) (pP_4_2 (x := y230) hDo ha hk hj234)) hP
          obtain ⟨I235, eI235⟩ : ∃ z, z = p2 Ia229 a 2 y230 := ⟨_, rfl⟩
          rw [← eI235] at hP
          have hR : RS v I Q J I235 Qa229 Ja229 := by rw [eI235]; exact hR.pi hC (by rw [hk]; decide)
          have hC : CT v L K N T I235 Qa229 := by rw [eI235]; exact hC.pi (by rw [hk]; decide)
          have hD : va_D A (va_pl L (pF cy K N T I235 Qa229 Ja229)) := pD hDo
          refine lv_aload_n hx hb dX4_agreeWith_67 rfl (lv_at hl 1 rfl) ?_
          refine lv_aload_n hx hb dX4_agreeWith_68 rfl (lv_at hl 1 rfl) ?_
          obtain ⟨j236, hj236⟩ := pG_4 (cy := cy) (N := N) (T := T) (I := I235) (Q := Qa229) (J := Ja229) ha hk
          refine va_get (D := (dC, dI)) (ci := 4) (v := .int (I235 a 4)) (C := RX4) (T := TX4) (N := 7) hx hb hts hi4 hown hK hP j236 hj236 rfl 4 (by decide) (hts (.fieldLink RX4 27 "TallyLogs$Replica" "flushed" "I") (by decide +kernel)) (fun _ h9 => h9) rfl dX4_agreeWith_69 ?_
          refine lv_topi (fun x237 ex237 => ?_)
          refine lv_aload_n hx hb dX4_agreeWith_72 rfl (lv_at hl 1 rfl) ?_
          obtain ⟨j238, hj238⟩ := pG_4 (cy := cy) (N := N) (T := T) (I := I235) (Q := Qa229) (J := Ja229) ha hk
          refine va_get (D := (dC, dI)) (ci := 4) (v := .int (I235 a 2)) (C := RX4) (T := TX4) (N := 7) hx hb hts hi4 hown hK hP j238 hj238 rfl 2 (by decide) (hts (.fieldLink RX4 21 "TallyLogs$Replica" "end" "I") (by decide +kernel)) (fun _ h9 => h9) rfl dX4_agreeWith_73 ?_
          refine lv_topi (fun x239 ex239 => ?_)
          refine va_mmin hx hb (by rw [hml]; exact hl.1.symm) hown (hts (.methodLink RX4 49 Lib.Math.min.name) (by decide +kernel)) (hts (.static Lib.Math.min.name) (by decide +kernel)) (hts (.initialized "java/lang/Math") (by decide +kernel)) (hts _ (List.mem_of_getElem? (i := 10) rfl)) (Nat.le_of_ble_eq_true rfl) (Nat.le_of_ble_eq_true rfl) (Nat.le_of_ble_eq_true rfl) (Nat.le_of_ble_eq_true rfl) dX4_agreeWith_76 ?_
          refine lv_topi (fun z240 ez240 => ?_)
          obtain ⟨j241, hj241⟩ := pG_4 (cy := cy) (N := N) (T := T) (I := I235) (Q := Qa229) (J := Ja229) ha hk
          have hDo := hD
          refine va_put (D := (dC, dI)) (ci := 4) (v := .int z240) (ty := .int) (C := RX4) (T := TX4) (N := 7) hx hb hts hi4 tyX4 tyX4_ok nmX4 hown hK hP hD hS j241 hj241 rfl 4 (by decide) (hts (.fieldLink RX4 27 "TallyLogs$Replica" "flushed" "I") (by decide +kernel)) (fun _ h9 => h9) rfl (by decide +kernel) rfl rfl (Nat.le_of_ble_eq_true rfl) dX4_agreeWith_79 (fun H locs hP hD hS => ?_)
          have hP := Eq.mp (congrArg (fun w => va_P (dC, dI) vwCl w H) (pP_4_4 (x := z240) hDo ha hk hj241)) hP
          obtain ⟨I242, eI242⟩ : ∃ z, z = p2 I235 a 4 z240 := ⟨_, rfl⟩
          rw [← eI242] at hP
          have hR : RS v I Q J I242 Qa229 Ja229 := by rw [eI242]; exact hR.pi hC (by rw [hk]; decide)
          have hC : CT v L K N T I242 Qa229 := by rw [eI242]; exact hC.pi (by rw [hk]; decide)
          have hD : va_D A (va_pl L (pF cy K N T I242 Qa229 Ja229)) := pD hDo
          rw [hQz]
          exact W.vret hx hb hr (fun t ht hW => ⟨⟨(I242, Qa229, Ja229), rfl, ⟨hC, hR⟩, by rw [ht]; exact hP, va_K.moved hW.alike hK, hD⟩, hS.F ht⟩) hS.2.2 dX4_agreeWith_82
        · refine lv_aload_n hx hb dX4_agreeWith_47 rfl (lv_at hl 1 rfl) ?_
          refine lv_iload_n hx hb dX4_agreeWith_48 rfl (lv_at hl 0 rfl) ?_
          refine lv_aload_n hx hb dX4_agreeWith_49 rfl (lv_at hl 2 rfl) ?_
          obtain ⟨j244, hj244⟩ := pG_4 (cy := cy) (N := N) (T := T) (I := Ia229) (Q := Qa229) (J := Ja229) ha hk
          refine vp_callSi (W.runV (As := [.int y230, .ref rb]) (rest := []) ⟨hx, hb, hml, hown, hts⟩ (c_X4_hasSameEpoch l dC dI cy v L K N T Ia229 Qa229 Ja229 a y230 rb hC ha hk hb4 hkb) (cwV 2 hts gX4_agreeWith_X4_hasSameEpoch rfl rfl rfl (by decide +kernel) ⟨Nat.le_of_ble_eq_true rfl, Nat.le_of_ble_eq_true rfl⟩) ⟨pb_blind, va_recv hK hP (ci := 4) (q0 := j244) rfl hj244, fun U hU hW => ⟨rfl, pb_pre hP hK hN hU hW⟩⟩ rfl rfl hl.1 rfl (lv_room (Nat.le_of_ble_eq_true rfl)) dX4_agreeWith_50 ⟨Nat.le_of_ble_eq_true rfl, Nat.le_of_ble_eq_true rfl⟩) (fun r243 hr243 => ?_)
          refine lv_if_eq (tgt := 62) hx hb dX4_agreeWith_53 (by decide) (fun c245 => ?_) (fun c245 => ?_)
          · refine lv_aload_n hx hb dX4_agreeWith_62 rfl (lv_at hl 1 rfl) ?_
            refine lv_iload_n hx hb dX4_agreeWith_63 rfl (lv_at hl 0 rfl) ?_
            obtain ⟨j246, hj246⟩ := pG_4 (cy := cy) (N := N) (T := T) (I := Ia229) (Q := Qa229) (J := Ja229) ha hk
            have hDo := hD
            refine va_put (D := (dC, dI)) (ci := 4) (v := .int y230) (ty := .int) (C := RX4) (T := TX4) (N := 7) hx hb hts hi4 tyX4 tyX4_ok nmX4 hown hK hP hD hS j246 hj246 rfl 2 (by decide) (hts (.fieldLink RX4 21 "TallyLogs$Replica" "end" "I") (by decide +kernel)) (fun _ h9 => h9) rfl (by decide +kernel) rfl rfl (Nat.le_of_ble_eq_true rfl) dX4_agreeWith_64 (fun H locs hP hD hS => ?_)
            have hP := Eq.mp (congrArg (fun w => va_P (dC, dI) vwCl w H) (pP_4_2 (x := y230) hDo ha hk hj246)) hP
            obtain ⟨I247, eI247⟩ : ∃ z, z = p2 Ia229 a 2 y230 := ⟨_, rfl⟩
            rw [← eI247] at hP
            have hR : RS v I Q J I247 Qa229 Ja229 := by rw [eI247]; exact hR.pi hC (by rw [hk]; decide)
            have hC : CT v L K N T I247 Qa229 := by rw [eI247]; exact hC.pi (by rw [hk]; decide)
            have hD : va_D A (va_pl L (pF cy K N T I247 Qa229 Ja229)) := pD hDo
            refine lv_aload_n hx hb dX4_agreeWith_67 rfl (lv_at hl 1 rfl) ?_
            refine lv_aload_n hx hb dX4_agreeWith_68 rfl (lv_at hl 1 rfl) ?_
            obtain ⟨j248, hj248⟩ := pG_4 (cy := cy) (N := N) (T := T) (I := I247) (Q := Qa229) (J := Ja229) ha hk
            refine va_get (D := (dC, dI)) (ci := 4) (v := .int (I247 a 4)) (C := RX4) (T := TX4) (N := 7) hx hb hts hi4 hown hK hP j248 hj248 rfl 4 (by decide) (hts (.fieldLink RX4 27 "TallyLogs$Replica" "flushed" "I") (by decide +kernel)) (fun _ h9 => h9) rfl dX4_agreeWith_69 ?_
            refine lv_topi (fun x249 ex249 => ?_)
            refine lv_aload_n hx hb dX4_agreeWith_72 rfl (lv_at hl 1 rfl) ?_
            obtain ⟨j250, hj250⟩ := pG_4 (cy := cy) (N := N) (T := T) (I := I247) (Q := Qa229) (J := Ja229) ha hk
            refine va_get (D := (dC, dI)) (ci := 4) (v := .int (I247 a 2)) (C := RX4) (T := TX4) (N := 7) hx hb hts hi4 hown hK hP j250 hj250 rfl 2 (by decide) (hts (.fieldLink RX4 21 "TallyLogs$Replica" "end" "I") (by decide +kernel)) (fun _ h9 => h9) rfl dX4_agreeWith_73 ?_
            refine lv_topi (fun x251 ex251 => ?_)
            refine va_mmin hx hb (by rw [hml]; exact hl.1.symm) hown (hts (.methodLink RX4 49 Lib.Math.min.name) (by decide +kernel)) (hts (.static Lib.Math.min.name) (by decide +kernel)) (hts (.initialized "java/lang/Math") (by decide +kernel)) (hts _ (List.mem_of_getElem? (i := 10) rfl)) (Nat.le_of_ble_eq_true rfl) (Nat.le_of_ble_eq_true rfl) (Nat.le_of_ble_eq_true rfl) (Nat.le_of_ble_eq_true rfl) dX4_agreeWith_76 ?_
            refine lv_topi (fun z252 ez252 => ?_)
            obtain ⟨j253, hj253⟩ := pG_4 (cy := cy) (N := N) (T := T) (I := I247) (Q := Qa229) (J := Ja229) ha hk
            have hDo := hD
            refine va_put (D := (dC, dI)) (ci := 4) (v := .int z252) (ty := .int) (C := RX4) (T := TX4) (N := 7) hx hb hts hi4 tyX4 tyX4_ok nmX4 hown hK hP hD hS j253 hj253 rfl 4 (by decide) (hts (.fieldLink RX4 27 "TallyLogs$Replica" "flushed" "I") (by decide +kernel)) (fun _ h9 => h9) rfl (by decide +kernel) rfl rfl (Nat.le_of_ble_eq_true rfl) dX4_agreeWith_79 (fun H locs hP hD hS => ?_)
            have hP := Eq.mp (congrArg (fun w => va_P (dC, dI) vwCl w H) (pP_4_4 (x := z252) hDo ha hk hj253)) hP
            obtain ⟨I254, eI254⟩ : ∃ z, z = p2 I247 a 4 z252 := ⟨_, rfl⟩
            rw [← eI254] at hP
            have hR : RS v I Q J I254 Qa229 Ja229 := by rw [eI254]; exact hR.pi hC (by rw [hk]; decide)
            have hC : CT v L K N T I254 Qa229 := by rw [eI254]; exact hC.pi (by rw [hk]; decide)
            have hD : va_D A (va_pl L (pF cy K N T I254 Qa229 Ja229)) := pD hDo
            rw [hQz]
            exact W.vret hx hb hr (fun t ht hW => ⟨⟨(I254, Qa229, Ja229), rfl, ⟨hC, hR⟩, by rw [ht]; exact hP, va_K.moved hW.alike hK, hD⟩, hS.F ht⟩) hS.2.2 dX4_agreeWith_82
          · obtain ⟨v255, ev255⟩ : ∃ y : Int32, y = y230 + Int32.ofInt 1 := ⟨_, rfl⟩
            refine lv_iinc (v := v255) (lv' := [(2, .int v255), (0, .ref a), (1, .ref rb)]) hx hb dX4_agreeWith_56 hl (k := 0) rfl ev255.symm (by decide) rfl (fun ls hl => ?_)
            refine lv_goto (tgt := 39) hx hb dX4_agreeWith_59 (by decide) ?_
            exact ih _ _ _ _ _ _ _ (by have kc := c233; rw [ex232] at kc; simp only [xk_le, xk_lt] at kc; have h9 := xinc (x := y230) (y := Ia229 a 2) (by rw [xk_lt]; omega); rw [ev255, show y230 + Int32.ofInt 1 = y230 + 1 from rfl, h9]; omega) (by have kc := c233; rw [ex232] at kc; simp only [xk_le, xk_lt] at kc; have h9 := xinc (x := y230) (y := Ia229 a 2) (by rw [xk_lt]; omega); rw [ev255, show y230 + Int32.ofInt 1 = y230 + 1 from rfl, h9]; omega) hC hR hP hD hS (lv_sub hl [0, 1, 2] rfl)
    exact hLP229 _ _ _ _ _ _ _ _ (Nat.lt_succ_self _) (xmax0 ez228 (by rw [ex225]; exact hC.2.2.2.2.2.2.2.1 a ha hk)) hC hR hP hD hS (lv_sub hl [0, 1, 2] rfl)
set_option maxHeartbeats 4000000 in
set_option maxRecDepth 100000 in
/-- Replica.fetchFrom -/
theorem c_X4_fetchFrom (l : Launch) (dC : Nat → ClassId) (dI : Nat → Nat → Nat) (cy : Nat → ClassId) (v : Nat → Nat) (L : List Nat) (K N : Nat → Nat) (T : Nat → Nat → Nat) (I : Nat → Nat → Int32) (Q : Nat → Nat → Option Nat) (J : Nat → Nat → Int32) (sz : Nat) (a : Nat) (rb : Nat) (hC : CT v L K N T I Q) (ha : a ∈ L) (hk : K a = 4) (hb4 : rb ∈ L) (hkb : K rb = 4) : Met l yX4_fetchFrom wsX4_fetchFrom ({ frames := 2, cells := 0, slots := 0, locals := 43 }) (va_Pc [.ref a, .ref rb] (pW dC dI cy L (pF cy K N T I Q J) sz)) (va_Qi (fun (r : Int32) (d : (Nat → Nat → Int32) × (Nat → Nat → Option Nat) × (Nat → Nat → Int32)) => (CT v L K N T d.1 d.2.1 ∧ RS v I Q J d.1 d.2.1 d.2.2) ∧ True) (fun (d : (Nat → Nat → Int32) × (Nat → Nat → Option Nat) × (Nat → Nat → Int32)) t => va_P (dC, dI) vwCl (va_pl L (pF cy K N T d.1 d.2.1 d.2.2)) t.heap ∧ va_K (dC, dI) vwCl (pTy cy) t ∧ va_D (va_A (va_pl L (pF cy K N T I Q J)) sz) (va_pl L (pF cy K N T d.1 d.2.1 d.2.2))) (va_A (va_pl L (pF cy K N T I Q J)) sz)) 0 0 (va_A (va_pl L (pF cy K N T I Q J)) sz) := by
  refine Met.ofW (cc := cX4_fetchFrom) (maxL := 3) (ret := (some .int)) (by decide) rfl ?_
  intro p e s m args below meth c s₁ B hml hv
  obtain ⟨rfl, hsz, ⟨hP, hK, hN⟩, hD0⟩ := hv
  have hx := B.exec
  have hb := B.bytes
  have hr := B.returns
  have hts := atoms_spec (ws := wsX4_fetchFrom) B.pre
  have hown : s.vm.findClass RX4 = some m.cls := findClass_of_methodNamed B.named
  have hlocks := B.notSynchronized
  have hi4 : ∀ w ∈ wsX40, w ∈ wsX4_fetchFrom := by decide +kernel
  have hl := lv_entry ([.ref a, .ref rb]) (n := 3) (Nat.le_of_ble_eq_true rfl)
  rw [lg_entry_eq]
  generalize (lg_sl ([.ref a, .ref rb]) ++ List.replicate (3 - (lg_sl ([.ref a, .ref rb])).length) Slot.unset).toArray = ls at hl ⊢
  have hl : lv_has ls 3 [(0, .ref a), (1, .ref rb)] := hl
  subst hsz
  have hD := hD0.self (sz := s.heap.size)
  generalize hAe : va_A (va_pl L (pF cy K N T I Q J)) s.heap.size = A at hD ⊢
  have hA : ∀ q : Nat, s.heap.size ≤ q → A q := fun q h => by rw [← hAe]; exact Or.inr h
  have hS : va_S A s.heap s.heap [] := va_S.rf
  have hR : RS v I Q J I Q J := RS.rf
  have hn28 := hN.1
  have hn30 := hN.2.1
  have hn37 := hN.2.2.1
  refine lv_aload_n hx hb dX4_fetchFrom_0 rfl (lv_at hl 0 rfl) ?_
  refine lv_aload_n hx hb dX4_fetchFrom_1 rfl (lv_at hl 1 rfl) ?_
  obtain ⟨j256, hj256⟩ := pG_4 (cy := cy) (N := N) (T := T) (I := I) (Q := Q) (J := J) hb4 hkb
  refine va_get (D := (dC, dI)) (ci := 4) (v := .int (I rb 1)) (C := RX4) (T := TX4) (N := 7) hx hb hts hi4 hown hK hP j256 hj256 rfl 1 (by decide) (hts (.fieldLink RX4 17 "TallyLogs$Replica" "start" "I") (by decide +kernel)) (fun _ h9 => h9) rfl dX4_fetchFrom_2 ?_
  refine lv_topi (fun x257 ex257 => ?_)
  obtain ⟨j258, hj258⟩ := pG_4 (cy := cy) (N := N) (T := T) (I := I) (Q := Q) (J := J) ha hk
  have hFc := pfree hD hS hA
  refine va_callv (va_runV (As := [.int x257]) (rest := []) ⟨hx, hb, hml, hown, hts⟩ (c_X4_dropBefore l dC dI cy v L K N T I Q J s.heap.size a x257 hC ha hk) (cwV 1 hts gX4_fetchFrom_X4_dropBefore rfl rfl rfl (by decide +kernel) ⟨Nat.le_of_ble_eq_true rfl, Nat.le_of_ble_eq_true rfl⟩) ⟨pw_blind, va_recv hK hP (ci := 4) (q0 := j258) rfl hj258, fun U hU hW => ⟨rfl, pw_pre hP hK hN hD hU hW⟩⟩ rfl rfl hl.1 rfl (lv_room (Nat.le_of_ble_eq_true rfl)) dX4_fetchFrom_5 ⟨Nat.le_of_ble_eq_true rfl, Nat.le_of_ble_eq_true rfl⟩) hS (fun q _ h => hFc q h) hFc (fun d9 t H1 locs ht hvm hw hB hz1 hk1 hS => ?_)
  obtain ⟨I259, Q259, J259⟩ := d9
  obtain ⟨hC, hR1⟩ := hw
  obtain ⟨hP, hK1, hD1⟩ := hB
  rw [ht] at hP
  have hD := hD1.weaken (fun _ _ _ h => hFc _ h)
  have hR := hR.trans hR1
  generalize H1 = H at hP hS ⊢
  have hP : va_P (dC, dI) vwCl (va_pl L (pF cy K N T I259 Q259 J259)) H := hP
  have hD : va_D A (va_pl L (pF cy K N T I259 Q259 J259)) := hD
  have hC : CT v L K N T I259 Q259 := hC
  have hR : RS v I Q J I259 Q259 J259 := hR
  refine lv_iconst (v := 0) hx hb dX4_fetchFrom_8 (by decide) ?_
  refine lv_istore_n (lv' := [(2, .int 0), (0, .ref a), (1, .ref rb)]) hx hb dX4_fetchFrom_9 rfl hl (by decide) rfl (fun ls hl => ?_)
  refine wq_gen (fun Qz hQz => ?_)
  have hLP261 : ∀ (n : Nat) (y262 : Int32) (Ia261 : Nat → Nat → Int32) (Qa261 : Nat → Nat → Option Nat) (Ja261 : Nat → Nat → Int32) (H : Heap) (locs : List Loc) (ls : Array Slot), (((5 : Int32)).toInt - y262.toInt).toNat < n → 0 ≤ y262.toInt → CT v L K N T Ia261 Qa261 → RS v I Q J Ia261 Qa261 Ja261 → va_P (dC, dI) vwCl (va_pl L (pF cy K N T Ia261 Qa261 Ja261)) H → va_D A (va_pl L (pF cy K N T Ia261 Qa261 Ja261)) → va_S A s.heap H locs → lv_has ls 3 [(2, .int y262), (0, .ref a), (1, .ref rb)] → W p l e (headSpec wsX4_fetchFrom ({ frames := 2, cells := 0, slots := 0, locals := 43 })).room s m ([.ref a, .ref rb] : List Value).toArray below meth c H locs 0 0 Qz (F0 m 10 ls []) := by
    intro n
    induction n with
    | zero => intro y262 Ia261 Qa261 Ja261 H locs ls hms; exact absurd hms (Nat.not_lt_zero _)
    | succ n ih =>
      intro y262 Ia261 Qa261 Ja261 H locs ls hms hnn261 hC hR hP hD hS hl
      refine lv_iload_n hx hb dX4_fetchFrom_10 rfl (lv_at hl 0 rfl) ?_
      refine lv_iconst (v := 5) hx hb dX4_fetchFrom_11 (by decide) ?_
      refine lv_icmp_ge (tgt := 44) hx hb dX4_fetchFrom_12 (by decide) (fun c263 => ?_) (fun c263 => ?_)
      · refine lv_aload_n hx hb dX4_fetchFrom_44 rfl (lv_at hl 1 rfl) ?_
        refine lv_aload_n hx hb dX4_fetchFrom_45 rfl (lv_at hl 2 rfl) ?_
        obtain ⟨j264, hj264⟩ := pG_4 (cy := cy) (N := N) (T := T) (I := Ia261) (Q := Qa261) (J := Ja261) hb4 hkb
        refine va_get (D := (dC, dI)) (ci := 4) (v := .int (Ia261 rb 3)) (C := RX4) (T := TX4) (N := 7) hx hb hts hi4 hown hK hP j264 hj264 rfl 3 (by decide) (hts (.fieldLink RX4 24 "TallyLogs$Replica" "hw" "I") (by decide +kernel)) (fun _ h9 => h9) rfl dX4_fetchFrom_46 ?_
        refine lv_topi (fun x265 ex265 => ?_)
        refine lv_aload_n hx hb dX4_fetchFrom_49 rfl (lv_at hl 1 rfl) ?_
        obtain ⟨j266, hj266⟩ := pG_4 (cy := cy) (N := N) (T := T) (I := Ia261) (Q := Qa261) (J := Ja261) ha hk
        refine va_get (D := (dC, dI)) (ci := 4) (v := .int (Ia261 a 2)) (C := RX4) (T := TX4) (N := 7) hx hb hts hi4 hown hK hP j266 hj266 rfl 2 (by decide) (hts (.fieldLink RX4 21 "TallyLogs$Replica" "end" "I") (by decide +kernel)) (fun _ h9 => h9) rfl dX4_fetchFrom_50 ?_
        refine lv_topi (fun x267 ex267 => ?_)
        refine va_mmin hx hb (by rw [hml]; exact hl.1.symm) hown (hts (.methodLink RX4 49 Lib.Math.min.name) (by decide +kernel)) (hts (.static Lib.Math.min.name) (by decide +kernel)) (hts (.initialized "java/lang/Math") (by decide +kernel)) (hts _ (List.mem_of_getElem? (i := 7) rfl)) (Nat.le_of_ble_eq_true rfl) (Nat.le_of_ble_eq_true rfl) (Nat.le_of_ble_eq_true rfl) (Nat.le_of_ble_eq_true rfl) dX4_fetchFrom_53 ?_
        refine lv_topi (fun z268 ez268 => ?_)
        obtain ⟨j269, hj269⟩ := pG_4 (cy := cy) (N := N) (T := T) (I := Ia261) (Q := Qa261) (J := Ja261) ha hk
        have hDo := hD
        refine va_put (D := (dC, dI)) (ci := 4) (v := .int z268) (ty := .int) (C := RX4) (T := TX4) (N := 7) hx hb hts hi4 tyX4 tyX4_ok nmX4 hown hK hP hD hS j269 hj269 rfl 3 (by decide) (hts (.fieldLink RX4 24 "TallyLogs$Replica" "hw" "I") (by decide +kernel)) (fun _ h9 => h9) rfl (by decide +kernel) rfl rfl (Nat.le_of_ble_eq_true rfl) dX4_fetchFrom_56 (fun H locs hP hD hS => ?_)
        have hP := Eq.mp (congrArg (fun w => va_P (dC, dI) vwCl w H) (pP_4_3 (x := z268) hDo ha hk hj269)) hP
        obtain ⟨I270, eI270⟩ : ∃ z, z = p2 Ia261 a 3 z268 := ⟨_, rfl⟩
        rw [← eI270] at hP
        have hR : RS v I Q J I270 Qa261 Ja261 := by rw [eI270]; exact hR.pi hC (by rw [hk]; decide)
        have hC : CT v L K N T I270 Qa261 := by rw [eI270]; exact hC.pi (by rw [hk]; decide)
        have hD : va_D A (va_pl L (pF cy K N T I270 Qa261 Ja261)) := pD hDo
        refine lv_iload_n hx hb dX4_fetchFrom_59 rfl (lv_at hl 0 rfl) ?_
        rw [hQz]
        exact W.iret (v := y262) hx hb hr (fun t ht hW => ⟨⟨y262, (I270, Qa261, Ja261), rfl, ⟨⟨hC, hR⟩, trivial⟩, by rw [ht]; exact hP, va_K.moved hW.alike hK, hD⟩, hS.F ht⟩) hS.2.2 dX4_fetchFrom_60
      · refine lv_aload_n hx hb dX4_fetchFrom_15 rfl (lv_at hl 1 rfl) ?_
        obtain ⟨j271, hj271⟩ := pG_4 (cy := cy) (N := N) (T := T) (I := Ia261) (Q := Qa261) (J := Ja261) ha hk
        refine va_get (D := (dC, dI)) (ci := 4) (v := .int (Ia261 a 2)) (C := RX4) (T := TX4) (N := 7) hx hb hts hi4 hown hK hP j271 hj271 rfl 2 (by decide) (hts (.fieldLink RX4 21 "TallyLogs$Replica" "end" "I") (by decide +kernel)) (fun _ h9 => h9) rfl dX4_fetchFrom_16 ?_
        refine lv_topi (fun x272 ex272 => ?_)
        refine lv_aload_n hx hb dX4_fetchFrom_19 rfl (lv_at hl 2 rfl) ?_
        obtain ⟨j273, hj273⟩ := pG_4 (cy := cy) (N := N) (T := T) (I := Ia261) (Q := Qa261) (J := Ja261) hb4 hkb
        refine va_get (D := (dC, dI)) (ci := 4) (v := .int (Ia261 rb 2)) (C := RX4) (T := TX4) (N := 7) hx hb hts hi4 hown hK hP j273 hj273 rfl 2 (by decide) (hts (.fieldLink RX4 21 "TallyLogs$Replica" "end" "I") (by decide +kernel)) (fun _ h9 => h9) rfl dX4_fetchFrom_20 ?_
        refine lv_topi (fun x274 ex274 => ?_)
        refine lv_icmp_ge (tgt := 44) hx hb dX4_fetchFrom_23 (by decide) (fun c275 => ?_) (fun c275 => ?_)
        · refine lv_aload_n hx hb dX4_fetchFrom_44 rfl (lv_at hl 1 rfl) ?_
          refine lv_aload_n hx hb dX4_fetchFrom_45 rfl (lv_at hl 2 rfl) ?_
          obtain ⟨j276, hj276⟩ := pG_4 (cy := cy) (N := N) (T := T) (I := Ia261) (Q := Qa261) (J := Ja261) hb4 hkb
          refine va_get (D := (dC, dI)) (ci := 4) (v := .int (Ia261 rb 3)) (C := RX4) (T := TX4) (N := 7) hx hb hts hi4 hown hK hP j276 hj276 rfl 3 (by decide) (hts (.fieldLink RX4 24 "TallyLogs$Replica" "hw" "I") (by decide +kernel)) (fun _ h9 => h9) rfl dX4_fetchFrom_46 ?_
          refine lv_topi (fun x277 ex277 => ?_)
          refine lv_aload_n hx hb dX4_fetchFrom_49 rfl (lv_at hl 1 rfl) ?_
          obtain ⟨j278, hj278⟩ := pG_4 (cy := cy) (N := N) (T := T) (I := Ia261) (Q := Qa261) (J := Ja261) ha hk
          refine va_get (D := (dC, dI)) (ci := 4) (v := .int (Ia261 a 2)) (C := RX4) (T := TX4) (N := 7) hx hb hts hi4 hown hK hP j278 hj278 rfl 2 (by decide) (hts (.fieldLink RX4 21 "TallyLogs$Replica" "end" "I") (by decide +kernel)) (fun _ h9 => h9) rfl dX4_fetchFrom_50 ?_
          refine lv_topi (fun x279 ex279 => ?_)
          refine va_mmin hx hb (by rw [hml]; exact hl.1.symm) hown (hts (.methodLink RX4 49 Lib.Math.min.name) (by decide +kernel)) (hts (.static Lib.Math.min.name) (by decide +kernel)) (hts (.initialized "java/lang/Math") (by decide +kernel)) (hts _ (List.mem_of_getElem? (i := 7) rfl)) (Nat.le_of_ble_eq_true rfl) (Nat.le_of_ble_eq_true rfl) (Nat.le_of_ble_eq_true rfl) (Nat.le_of_ble_eq_true rfl) dX4_fetchFrom_53 ?_
          refine lv_topi (fun z280 ez280 => ?_)
          obtain ⟨j281, hj281⟩ := pG_4 (cy := cy) (N := N) (T := T) (I := Ia261) (Q := Qa261) (J := Ja261) ha hk
          have hDo := hD
          refine va_put (D := (dC, dI)) (ci := 4) (v := .int z280) (ty := .int) (C := RX4) (T := TX4) (N := 7) hx hb hts hi4 tyX4 tyX4_ok nmX4 hown hK hP hD hS j281 hj281 rfl 3 (by decide) (hts (.fieldLink RX4 24 "TallyLogs$Replica" "hw" "I") (by decide +kernel)) (fun _ h9 => h9) rfl (by decide +kernel) rfl rfl (Nat.le_of_ble_eq_true rfl) dX4_fetchFrom_56 (fun H locs hP hD hS => ?_)
          have hP := Eq.mp (congrArg (fun w => va_P (dC, dI) vwCl w H) (pP_4_3 (x := z280) hDo ha hk hj281)) hP
          obtain ⟨I282, eI282⟩ : ∃ z, z = p2 Ia261 a 3 z280 := ⟨_, rfl⟩
          rw [← eI282] at hP
          have hR : RS v I Q J I282 Qa261 Ja261 := by rw [eI282]; exact hR.pi hC (by rw [hk]; decide)
          have hC : CT v L K N T I282 Qa261 := by rw [eI282]; exact hC.pi (by rw [hk]; decide)
          have hD : va_D A (va_pl L (pF cy K N T I282 Qa261 Ja261)) := pD hDo
          refine lv_iload_n hx hb dX4_fetchFrom_59 rfl (lv_at hl 0 rfl) ?_
          rw [hQz]
          exact W.iret (v := y262) hx hb hr (fun t ht hW => ⟨⟨y262, (I282, Qa261, Ja261), rfl, ⟨⟨hC, hR⟩, trivial⟩, by rw [ht]; exact hP, va_K.moved hW.alike hK, hD⟩, hS.F ht⟩) hS.2.2 dX4_fetchFrom_60
        · refine lv_aload_n hx hb dX4_fetchFrom_26 rfl (lv_at hl 1 rfl) ?_
          refine lv_aload_n hx hb dX4_fetchFrom_27 rfl (lv_at hl 2 rfl) ?_
          refine lv_aload_n hx hb dX4_fetchFrom_28 rfl (lv_at hl 1 rfl) ?_
          obtain ⟨j283, hj283⟩ := pG_4 (cy := cy) (N := N) (T := T) (I := Ia261) (Q := Qa261) (J := Ja261) ha hk
          refine va_get (D := (dC, dI)) (ci := 4) (v := .int (Ia261 a 2)) (C := RX4) (T := TX4) (N := 7) hx hb hts hi4 hown hK hP j283 hj283 rfl 2 (by decide) (hts (.fieldLink RX4 21 "TallyLogs$Replica" "end" "I") (by decide +kernel)) (fun _ h9 => h9) rfl dX4_fetchFrom_29 ?_
          refine lv_topi (fun x284 ex284 => ?_)
          obtain ⟨j286, hj286⟩ := pG_4 (cy := cy) (N := N) (T := T) (I := Ia261) (Q := Qa261) (J := Ja261) hb4 hkb
          refine va_csq (W.runV (As := [.int x284]) (rest := [.ref a]) ⟨hx, hb, hml, hown, hts⟩ (c_X4_entryAt l dC dI cy v L K N T Ia261 Qa261 Ja261 rb x284 hC hb4 hkb) (cwV 1 hts gX4_fetchFrom_X4_entryAt rfl rfl rfl (by decide +kernel) ⟨Nat.le_of_ble_eq_true rfl, Nat.le_of_ble_eq_true rfl⟩) ⟨pb_blind, va_recv hK hP (ci := 4) (q0 := j286) rfl hj286, fun U hU hW => ⟨rfl, pb_pre hP hK hN hU hW⟩⟩ rfl rfl hl.1 rfl (lv_room (Nat.le_of_ble_eq_true rfl)) dX4_fetchFrom_32 ⟨Nat.le_of_ble_eq_true rfl, Nat.le_of_ble_eq_true rfl⟩) (fun r285 hr285 => ?_)
          cases r285 with
          | none =>
            refine W.eq (g2 := F0 m 35 ls [.null, .ref a]) rfl ?_
            obtain ⟨j288, hj288⟩ := pG_4 (cy := cy) (N := N) (T := T) (I := Ia261) (Q := Qa261) (J := Ja261) ha hk
            have hFc := pfree hD hS hA
            refine va_callv (va_runV (As := [.null]) (rest := []) ⟨hx, hb, hml, hown, hts⟩ (c_X4_append0 l dC dI cy v L K N T Ia261 Qa261 Ja261 H.size a hC ha hk) (cwV 1 hts gX4_fetchFrom_X4_append rfl rfl rfl (by decide +kernel) ⟨Nat.le_of_ble_eq_true rfl, Nat.le_of_ble_eq_true rfl⟩) ⟨pw_blind, va_recv hK hP (ci := 4) (q0 := j288) rfl hj288, fun U hU hW => ⟨rfl, pw_pre hP hK hN hD hU hW⟩⟩ rfl rfl hl.1 rfl (lv_room (Nat.le_of_ble_eq_true rfl)) dX4_fetchFrom_35 ⟨Nat.le_of_ble_eq_true rfl, Nat.le_of_ble_eq_true rfl⟩) hS (fun q _ h => hFc q h) hFc (fun d9 t H1 locs ht hvm hw hB hz1 hk1 hS => ?_)
            obtain ⟨I289, Q289, J289⟩ := d9
            obtain ⟨hC, hR1⟩ := hw
            obtain ⟨hP, hK1, hD1⟩ := hB
            rw [ht] at hP
            have hD := hD1.weaken (fun _ _ _ h => hFc _ h)
            have hR := hR.trans hR1
            generalize H1 = H at hP hS ⊢
            have hP : va_P (dC, dI) vwCl (va_pl L (pF cy K N T I289 Q289 J289)) H := hP
            have hD : va_D A (va_pl L (pF cy K N T I289 Q289 J289)) := hD
            have hC : CT v L K N T I289 Q289 := hC
            have hR : RS v I Q J I289 Q289 J289 := hR
            obtain ⟨v290, ev290⟩ : ∃ y : Int32, y = y262 + Int32.ofInt 1 := ⟨_, rfl⟩
            refine lv_iinc (v := v290) (lv' := [(2, .int v290), (0, .ref a), (1, .ref rb)]) hx hb dX4_fetchFrom_38 hl (k := 0) rfl ev290.symm (by decide) rfl (fun ls hl => ?_)
            refine lv_goto (tgt := 10) hx hb dX4_fetchFrom_41 (by decide) ?_
            exact ih _ _ _ _ _ _ _ (by have kc := c263; simp only [xk_le, xk_lt] at kc; have h9 := xinc (x := y262) (y := (5 : Int32)) (by rw [xk_lt]; omega); rw [ev290, show y262 + Int32.ofInt 1 = y262 + 1 from rfl, h9]; omega) (by have kc := c263; simp only [xk_le, xk_lt] at kc; have h9 := xinc (x := y262) (y := (5 : Int32)) (by rw [xk_lt]; omega); rw [ev290, show y262 + Int32.ofInt 1 = y262 + 1 from rfl, h9]; omega) hC hR hP hD hS (lv_sub hl [0, 1, 2] rfl)
          | some b287 =>
            have hTb287 := hr285 b287 rfl
            refine W.eq (g2 := F0 m 35 ls [.ref b287, .ref a]) rfl ?_
            obtain ⟨j291, hj291⟩ := pG_4 (cy := cy) (N := N) (T := T) (I := Ia261) (Q := Qa261) (J := Ja261) ha hk
            have hFc := pfree hD hS hA
            refine va_callv (va_runV (As := [.ref b287]) (rest := []) ⟨hx, hb, hml, hown, hts⟩ (c_X4_append l dC dI cy v L K N T Ia261 Qa261 Ja261 H.size a b287 hC ha hk hTb287.1 hTb287.2) (cwV 1 hts gX4_fetchFrom_X4_append rfl rfl rfl (by decide +kernel) ⟨Nat.le_of_ble_eq_true rfl, Nat.le_of_ble_eq_true rfl⟩) ⟨pw_blind, va_recv hK hP (ci := 4) (q0 := j291) rfl hj291, fun U hU hW => ⟨rfl, pw_pre hP hK hN hD hU hW⟩⟩ rfl rfl hl.1 rfl (lv_room (Nat.le_of_ble_eq_true rfl)) dX4_fetchFrom_35 ⟨Nat.le_of_ble_eq_true rfl, Nat.le_of_ble_eq_true rfl⟩) hS (fun q _ h => hFc q h) hFc (fun d9 t H1 locs ht hvm hw hB hz1 hk1 hS => ?_)
            obtain ⟨I292, Q292, J292⟩ := d9
            obtain ⟨hC, hR1⟩ := hw
            obtain ⟨hP, hK1, hD1⟩ := hB
            rw [ht] at hP
            have hD := hD1.weaken (fun _ _ _ h => hFc _ h)
            have hR := hR.trans hR1
            generalize H1 = H at hP hS ⊢
            have hP : va_P (dC, dI) vwCl (va_pl L (pF cy K N T I292 Q292 J292)) H := hP
            have hD : va_D A (va_pl L (pF cy K N T I292 Q292 J292)) := hD
            have hC : CT v L K N T I292 Q292 := hC
            have hR : RS v I Q J I292 Q292 J292 := hR
            obtain ⟨v294, ev294⟩ : ∃ y : Int32, y = y262 + Int32.ofInt 1 := ⟨_, rfl⟩
            refine lv_iinc (v := v294) (lv' := [(2, .int v294), (0, .ref a), (1, .ref rb)]) hx hb dX4_fetchFrom_38 hl (k := 0) rfl ev294.symm (by decide) rfl (fun ls hl => ?_)
            refine lv_goto (tgt := 10) hx hb dX4_fetchFrom_41 (by decide) ?_
            exact ih _ _ _ _ _ _ _ (by have kc := c263; simp only [xk_le, xk_lt] at kc; have h9 := xinc (x := y262) (y := (5 : Int32)) (by rw [xk_lt]; omega); rw [ev294, show y262 + Int32.ofInt 1 = y262 + 1 from rfl, h9]; omega) (by have kc := c263; simp only [xk_le, xk_lt] at kc; have h9 := xinc (x := y262) (y := (5 : Int32)) (by rw [xk_lt]; omega); rw [ev294, show y262 + Int32.ofInt 1 = y262 + 1 from rfl, h9]; omega) hC hR hP hD hS (lv_sub hl [0, 1, 2] rfl)
  exact hLP261 _ _ _ _ _ _ _ _ (Nat.lt_succ_self _) (by decide) hC hR hP hD hS (lv_sub hl [0, 1, 2] rfl)
end
section
set_option maxHeartbeats 4000000 in
set_option maxRecDepth 100000 in
/-- Partition.replicaAt -/
theorem c_X2_replicaAt (l : Launch) (dC : Nat → ClassId) (dI : Nat → Nat → Nat) (cy : Nat → ClassId) (v : Nat → Nat) (L : List Nat) (K N : Nat → Nat) (T : Nat → Nat → Nat) (I : Nat → Nat → Int32) (Q : Nat → Nat → Option Nat) (J : Nat → Nat → Int32) (a : Nat) (xn : Int32) (hC : CT v L K N T I Q) (ha : a ∈ L) (hk : K a = 2) : Met l yX2_replicaAt wsX2_replicaAt ({ frames := 0, cells := 0, slots := 0, locals := 0 }) (va_Pc [.ref a, .int xn] (pB dC dI cy L (pF cy K N T I Q J))) (va_Sq (fun r => ∀ b, r = some b → b ∈ L ∧ K b = 4)) 0 0 (fun _ => False) := by
  refine Met.ofW (cc := cX2_replicaAt) (maxL := 2) (ret := (some (.object "TallyLogs$Replica"))) (by decide) rfl ?_
  intro p e s m args below meth c s₁ B hml hv
  obtain ⟨rfl, hP, hK, hN⟩ := hv
  have hx := B.exec
  have hb := B.bytes
  have hr := B.returns
  have hts := atoms_spec (ws := wsX2_replicaAt) B.pre
  have hown : s.vm.findClass RX2 = some m.cls := findClass_of_methodNamed B.named
  have hlocks := B.notSynchronized
  have hi2 : ∀ w ∈ wsX20, w ∈ wsX2_replicaAt := by decide +kernel
  have hl := lv_entry ([.ref a, .int xn]) (n := 2) (Nat.le_of_ble_eq_true rfl)
  rw [lg_entry_eq]
  generalize (lg_sl ([.ref a, .int xn]) ++ List.replicate (2 - (lg_sl ([.ref a, .int xn])).length) Slot.unset).toArray = ls at hl ⊢
  have hl : lv_has ls 2 [(0, .ref a), (1, .int xn)] := hl
  have hn28 := hN.1
  have hn30 := hN.2.1
  have hn37 := hN.2.2.1
  refine lv_iload_n hx hb dX2_replicaAt_0 rfl (lv_at hl 1 rfl) ?_
  refine lv_if_lt (tgt := 9) hx hb dX2_replicaAt_1 (by decide) (fun c295 => ?_) (fun c295 => ?_)
  · refine lv_null hx hb dX2_replicaAt_9 ?_
    refine lv_goto (tgt := 19) hx hb dX2_replicaAt_10 (by decide) ?_
    exact W.aret (v := .null) hx hb hr (Or.inl ⟨_, rfl⟩) (Or.inl rfl) (fun t ht hW => ⟨none, rfl, (fun _ h => by cases h), ht⟩) (fun _ h => by cases h) dX2_replicaAt_19
  · refine lv_iload_n hx hb dX2_replicaAt_4 rfl (lv_at hl 1 rfl) ?_
    refine lv_iconst (v := 5) hx hb dX2_replicaAt_5 (by decide) ?_
    refine lv_icmp_lt (tgt := 13) hx hb dX2_replicaAt_6 (by decide) (fun c296 => ?_) (fun c296 => ?_)
    · refine lv_aload_n hx hb dX2_replicaAt_13 rfl (lv_at hl 0 rfl) ?_
      obtain ⟨j297, hj297⟩ := pG_2 (cy := cy) (N := N) (T := T) (I := I) (Q := Q) (J := J) ha hk
      refine va_get (D := (dC, dI)) (ci := 2) (v := .ref (T a 2)) (C := RX2) (T := TX2) (N := 6) hx hb hts hi2 hown hK hP j297 hj297 rfl 2 (by decide) (hts (.fieldLink RX2 11 "TallyLogs$Partition" "replicas" "[LTallyLogs$Replica;") (by decide +kernel)) (fun _ h9 => h9) rfl dX2_replicaAt_14 ?_
      obtain ⟨t298, et298⟩ : ∃ t, t = T a 2 := ⟨_, rfl⟩
      have hLt298 : t298 ∈ L := by rw [et298]; exact (hC.2.2.2.2.1 a ha hk).1
      have hkt298 : K t298 = 12 := by rw [et298]; exact (hC.2.2.2.2.1 a ha hk).2
      refine W.eq (g2 := F0 m 17 ls [.ref t298]) (by rw [et298]) ?_
      refine lv_iload_n hx hb dX2_replicaAt_17 rfl (lv_at hl 1 rfl) ?_
      have hin299 : vp_in xn 5 := xin_of (by have kc295 := c295; have kc296 := c296; simp only [xk_lt, xk_le, xk_0, xk_1, xk_2, xk_3, xk_4, xk_5, xk_6, xk_7, xk_8, xk_50] at kc295 kc296; omega) (by have kc295 := c295; have kc296 := c296; simp only [xk_lt, xk_le, xk_0, xk_1, xk_2, xk_3, xk_4, xk_5, xk_6, xk_7, xk_8, xk_50] at kc295 kc296; omega)
      obtain ⟨j300, hj300⟩ := pG_12 (cy := cy) (N := N) (T := T) (I := I) (Q := Q) (J := J) hLt298 hkt298
      refine va_aldq hx hb hK hP j300 5 hj300 rfl hin299 dX2_replicaAt_18 ?_
      cases hq302 : Q t298 xn.toNatClampNeg with
      | none =>
        refine W.eq (g2 := F0 m 19 ls [.null]) rfl ?_
        exact W.aret (v := .null) hx hb hr (Or.inl ⟨_, rfl⟩) (Or.inl rfl) (fun t ht hW => ⟨none, rfl, (fun _ h => by cases h), ht⟩) (fun _ h => by cases h) dX2_replicaAt_19
      | some b301 =>
        have hTb301 := (hC.2.2.2.2.2.1 t298 hLt298 hkt298 xn.toNatClampNeg b301 (vp_lt hin299) hq302)
        refine W.eq (g2 := F0 m 19 ls [.ref b301]) rfl ?_
        exact W.aret (v := .ref b301) hx hb hr (Or.inl ⟨_, rfl⟩) (Or.inr ⟨_, rfl⟩) (fun t ht hW => ⟨some b301, rfl, (fun _ h => by cases h; exact ⟨hTb301.1, hTb301.2⟩), ht⟩) (fun _ h => by cases h) dX2_replicaAt_19
    · refine lv_null hx hb dX2_replicaAt_9 ?_
      refine lv_goto (tgt := 19) hx hb dX2_replicaAt_10 (by decide) ?_
      exact W.aret (v := .null) hx hb hr (Or.inl ⟨_, rfl⟩) (Or.inl rfl) (fun t ht hW => ⟨none, rfl, (fun _ h => by cases h), ht⟩) (fun _ h => by cases h) dX2_replicaAt_19
set_option maxHeartbeats 4000000 in
set_option maxRecDepth 100000 in
/-- Partition.leading -/
theorem c_X2_leading (l : Launch) (dC : Nat → ClassId) (dI : Nat → Nat → Nat) (cy : Nat → ClassId) (v : Nat → Nat) (L : List Nat) (K N : Nat → Nat) (T : Nat → Nat → Nat) (I : Nat → Nat → Int32) (Q : Nat → Nat → Option Nat) (J : Nat → Nat → Int32) (a : Nat)  (hC : CT v L K N T I Q) (ha : a ∈ L) (hk : K a = 2) : Met l yX2_leading wsX2_leading ({ frames := 1, cells := 0, slots := 0, locals := 21 }) (va_Pc [.ref a] (pB dC dI cy L (pF cy K N T I Q J))) (va_Sq (fun r => ∀ b, r = some b → b ∈ L ∧ K b = 4)) 0 0 (fun _ => False) := by
  refine Met.ofW (cc := cX2_leading) (maxL := 1) (ret := (some (.object "TallyLogs$Replica"))) (by decide) rfl ?_
  intro p e s m args below meth c s₁ B hml hv
  obtain ⟨rfl, hP, hK, hN⟩ := hv
  have hx := B.exec
  have hb := B.bytes
  have hr := B.returns
  have hts := atoms_spec (ws := wsX2_leading) B.pre
  have hown : s.vm.findClass RX2 = some m.cls := findClass_of_methodNamed B.named
  have hlocks := B.notSynchronized
  have hi2 : ∀ w ∈ wsX20, w ∈ wsX2_leading := by decide +kernel
  have hl := lv_entry ([.ref a]) (n := 1) (Nat.le_of_ble_eq_true rfl)
  rw [lg_entry_eq]
  generalize (lg_sl ([.ref a]) ++ List.replicate (1 - (lg_sl ([.ref a])).length) Slot.unset).toArray = ls at hl ⊢
  have hl : lv_has ls 1 [(0, .ref a)] := hl
  have hn28 := hN.1
  have hn30 := hN.2.1
  have hn37 := hN.2.2.1
  refine lv_aload_n hx hb dX2_leading_0 rfl (lv_at hl 0 rfl) ?_
  refine lv_aload_n hx hb dX2_leading_1 rfl (lv_at hl 0 rfl) ?_
  obtain ⟨j303, hj303⟩ := pG_2 (cy := cy) (N := N) (T := T) (I := I) (Q := Q) (J := J) ha hk
  refine va_get (D := (dC, dI)) (ci := 2) (v := .int (I a 3)) (C := RX2) (T := TX2) (N := 6) hx hb hts hi2 hown hK hP j303 hj303 rfl 3 (by decide) (hts (.fieldLink RX2 34 "TallyLogs$Partition" "leader" "I") (by decide +kernel)) (fun _ h9 => h9) rfl dX2_leading_2 ?_
  refine lv_topi (fun x304 ex304 => ?_)
  obtain ⟨j306, hj306⟩ := pG_2 (cy := cy) (N := N) (T := T) (I := I) (Q := Q) (J := J) ha hk
  refine va_csq (W.runV (As := [.int x304]) (rest := []) ⟨hx, hb, hml, hown, hts⟩ (c_X2_replicaAt l dC dI cy v L K N T I Q J a x304 hC ha hk) (cwV 1 hts gX2_leading_X2_replicaAt rfl rfl rfl (by decide +kernel) ⟨Nat.le_of_ble_eq_true rfl, Nat.le_of_ble_eq_true rfl⟩) ⟨pb_blind, va_recv hK hP (ci := 2) (q0 := j306) rfl hj306, fun U hU hW => ⟨rfl, pb_pre hP hK hN hU hW⟩⟩ rfl rfl hl.1 rfl (lv_room (Nat.le_of_ble_eq_true rfl)) dX2_leading_5 ⟨Nat.le_of_ble_eq_true rfl, Nat.le_of_ble_eq_true rfl⟩) (fun r305 hr305 => ?_)
  cases r305 with
  | none =>
    refine W.eq (g2 := F0 m 8 ls [.null]) rfl ?_
    exact W.aret (v := .null) hx hb hr (Or.inl ⟨_, rfl⟩) (Or.inl rfl) (fun t ht hW => ⟨none, rfl, (fun _ h => by cases h), ht⟩) (fun _ h => by cases h) dX2_leading_8
  | some b307 =>
    have hTb307 := hr305 b307 rfl
    refine W.eq (g2 := F0 m 8 ls [.ref b307]) rfl ?_
    exact W.aret (v := .ref b307) hx hb hr (Or.inl ⟨_, rfl⟩) (Or.inr ⟨_, rfl⟩) (fun t ht hW => ⟨some b307, rfl, (fun _ h => by cases h; exact ⟨hTb307.1, hTb307.2⟩), ht⟩) (fun _ h => by cases h) dX2_leading_8
set_option maxHeartbeats 4000000 in
set_option maxRecDepth 100000 in
/-- Partition.knownEnd -/
theorem c_X2_knownEnd (l : Launch) (dC : Nat → ClassId) (dI : Nat → Nat → Nat) (cy : Nat → ClassId) (v : Nat → Nat) (L : List Nat) (K N : Nat → Nat) (T : Nat → Nat → Nat) (I : Nat → Nat → Int32) (Q : Nat → Nat → Option Nat) (J : Nat → Nat → Int32) (a : Nat) (xn : Int32) (hC : CT v L K N T I Q) (ha : a ∈ L) (hk : K a = 2) : Met l yX2_knownEnd wsX2_knownEnd ({ frames := 1, cells := 0, slots := 0, locals := 21 }) (va_Pc [.ref a, .int xn] (pB dC dI cy L (pF cy K N T I Q J))) (vp_Si (fun r => True)) 0 0 (fun _ => False) := by
  refine Met.ofW (cc := cX2_knownEnd) (maxL := 3) (ret := (some .int)) (by decide) rfl ?_
  intro p e s m args below meth c s₁ B hml hv
  obtain ⟨rfl, hP, hK, hN⟩ := hv
  have hx := B.exec
  have hb := B.bytes
  have hr := B.returns
  have hts := atoms_spec (ws := wsX2_knownEnd) B.pre
  have hown : s.vm.findClass RX2 = some m.cls := findClass_of_methodNamed B.named
  have hlocks := B.notSynchronized
  have hi2 : ∀ w ∈ wsX20, w ∈ wsX2_knownEnd := by decide +kernel
  have hi4 : ∀ w ∈ wsX40, w ∈ wsX2_knownEnd := by decide +kernel
  have hl := lv_entry ([.ref a, .int xn]) (n := 3) (Nat.le_of_ble_eq_true rfl)
  rw [lg_entry_eq]
  generalize (lg_sl ([.ref a, .int xn]) ++ List.replicate (3 - (lg_sl ([.ref a, .int xn])).length) Slot.unset).toArray = ls at hl ⊢
  have hl : lv_has ls 3 [(0, .ref a), (1, .int xn)] := hl
  have hn28 := hN.1
  have hn30 := hN.2.1
  have hn37 := hN.2.2.1
  refine lv_aload_n hx hb dX2_knownEnd_0 rfl (lv_at hl 0 rfl) ?_
  refine lv_iload_n hx hb dX2_knownEnd_1 rfl (lv_at hl 1 rfl) ?_
  obtain ⟨j309, hj309⟩ := pG_2 (cy := cy) (N := N) (T := T) (I := I) (Q := Q) (J := J) ha hk
  refine va_csq (W.runV (As := [.int xn]) (rest := []) ⟨hx, hb, hml, hown, hts⟩ (c_X2_replicaAt l dC dI cy v L K N T I Q J a xn hC ha hk) (cwV 1 hts gX2_knownEnd_X2_replicaAt rfl rfl rfl (by decide +kernel) ⟨Nat.le_of_ble_eq_true rfl, Nat.le_of_ble_eq_true rfl⟩) ⟨pb_blind, va_recv hK hP (ci := 2) (q0 := j309) rfl hj309, fun U hU hW => ⟨rfl, pb_pre hP hK hN hU hW⟩⟩ rfl rfl hl.1 rfl (lv_room (Nat.le_of_ble_eq_true rfl)) dX2_knownEnd_2 ⟨Nat.le_of_ble_eq_true rfl, Nat.le_of_ble_eq_true rfl⟩) (fun r308 hr308 => ?_)
  cases r308 with
  | none =>
    refine W.eq (g2 := F0 m 5 ls [.null]) rfl ?_
    refine lv_astore_nN (lv' := [(2, .null), (0, .ref a), (1, .int xn)]) hx hb dX2_knownEnd_5 rfl hl (by decide) rfl (fun ls hl => ?_)
    refine lv_aload_nN hx hb dX2_knownEnd_6 rfl (lv_at hl 0 rfl) ?_
    refine lv_ifnonnullN hx hb dX2_knownEnd_7 ?_
    refine lv_iconst (v := (-1)) hx hb dX2_knownEnd_10 (by decide) ?_
    exact W.iret (v := (-1)) hx hb hr (fun t ht hW => ⟨(-1), rfl, trivial, ht⟩) (fun _ h => by cases h) dX2_knownEnd_11
  | some b310 =>
    have hTb310 := hr308 b310 rfl
    refine W.eq (g2 := F0 m 5 ls [.ref b310]) rfl ?_
    refine lv_astore_n (lv' := [(2, .ref b310), (0, .ref a), (1, .int xn)]) hx hb dX2_knownEnd_5 rfl hl (by decide) rfl (fun ls hl => ?_)
    refine lv_aload_n hx hb dX2_knownEnd_6 rfl (lv_at hl 0 rfl) ?_
    refine lv_ifnonnull (tgt := 12) hx hb dX2_knownEnd_7 (by decide) ?_
    refine lv_iload_n hx hb dX2_knownEnd_12 rfl (lv_at hl 2 rfl) ?_
    refine lv_aload_n hx hb dX2_knownEnd_13 rfl (lv_at hl 1 rfl) ?_
    obtain ⟨j311, hj311⟩ := pG_2 (cy := cy) (N := N) (T := T) (I := I) (Q := Q) (J := J) ha hk
    refine va_get (D := (dC, dI)) (ci := 2) (v := .int (I a 3)) (C := RX2) (T := TX2) (N := 6) hx hb hts hi2 hown hK hP j311 hj311 rfl 3 (by decide) (hts (.fieldLink RX2 34 "TallyLogs$Partition" "leader" "I") (by decide +kernel)) (fun _ h9 => h9) rfl dX2_knownEnd_14 ?_
    refine lv_topi (fun x312 ex312 => ?_)
    refine lv_icmp_ne (tgt := 27) hx hb dX2_knownEnd_17 (by decide) (fun c313 => ?_) (fun c313 => ?_)
    · refine lv_aload_n hx hb dX2_knownEnd_27 rfl (lv_at hl 0 rfl) ?_
      obtain ⟨j314, hj314⟩ := pG_4 (cy := cy) (N := N) (T := T) (I := I) (Q := Q) (J := J) hTb310.1 hTb310.2
      refine va_get (D := (dC, dI)) (ci := 4) (v := .int (I b310 5)) (C := RX4) (T := TX4) (N := 7) hx hb hts hi4 hown hK hP j314 hj314 rfl 5 (by decide) (hts (.fieldLink RX2 51 "TallyLogs$Replica" "known" "I") (by decide +kernel)) (fun _ h9 => h9) rfl dX2_knownEnd_28 ?_
      refine lv_topi (fun x315 ex315 => ?_)
      exact W.iret (v := x315) hx hb hr (fun t ht hW => ⟨x315, rfl, trivial, ht⟩) (fun _ h => by cases h) dX2_knownEnd_31
    · refine lv_aload_n hx hb dX2_knownEnd_20 rfl (lv_at hl 0 rfl) ?_
      obtain ⟨j316, hj316⟩ := pG_4 (cy := cy) (N := N) (T := T) (I := I) (Q := Q) (J := J) hTb310.1 hTb310.2
      refine va_get (D := (dC, dI)) (ci := 4) (v := .int (I b310 2)) (C := RX4) (T := TX4) (N := 7) hx hb hts hi4 hown hK hP j316 hj316 rfl 2 (by decide) (hts (.fieldLink RX2 48 "TallyLogs$Replica" "end" "I") (by decide +kernel)) (fun _ h9 => h9) rfl dX2_knownEnd_21 ?_
      refine lv_topi (fun x317 ex317 => ?_)
      refine lv_goto (tgt := 31) hx hb dX2_knownEnd_24 (by decide) ?_
      exact W.iret (v := x317) hx hb hr (fun t ht hW => ⟨x317, rfl, trivial, ht⟩) (fun _ h => by cases h) dX2_knownEnd_31
set_option maxHeartbeats 4000000 in
set_option maxRecDepth 100000 in
/-- Partition.raiseHw -/
theorem c_X2_raiseHw (l : Launch) (dC : Nat → ClassId) (dI : Nat → Nat → Nat) (cy : Nat → ClassId) (v : Nat → Nat) (L : List Nat) (K N : Nat → Nat) (T : Nat → Nat → Nat) (I : Nat → Nat → Int32) (Q : Nat → Nat → Option Nat) (J : Nat → Nat → Int32) (sz : Nat) (a : Nat)  (hC : CT v L K N T I Q) (ha : a ∈ L) (hk : K a = 2) : Met l yX2_raiseHw wsX2_raiseHw ({ frames := 2, cells := 0, slots := 0, locals := 43 }) (va_Pc [.ref a] (pW dC dI cy L (pF cy K N T I Q J) sz)) (va_Qv (fun d : (Nat → Nat → Int32) × (Nat → Nat → Option Nat) × (Nat → Nat → Int32) => CT v L K N T d.1 d.2.1 ∧ RS v I Q J d.1 d.2.1 d.2.2) (fun (d : (Nat → Nat → Int32) × (Nat → Nat → Option Nat) × (Nat → Nat → Int32)) t => va_P (dC, dI) vwCl (va_pl L (pF cy K N T d.1 d.2.1 d.2.2)) t.heap ∧ va_K (dC, dI) vwCl (pTy cy) t ∧ va_D (va_A (va_pl L (pF cy K N T I Q J)) sz) (va_pl L (pF cy K N T d.1 d.2.1 d.2.2))) (va_A (va_pl L (pF cy K N T I Q J)) sz)) 0 0 (va_A (va_pl L (pF cy K N T I Q J)) sz) := by
  refine Met.ofW (cc := cX2_raiseHw) (maxL := 4) (ret := none) (by decide) rfl ?_
  intro p e s m args below meth c s₁ B hml hv
  obtain ⟨rfl, hsz, ⟨hP, hK, hN⟩, hD0⟩ := hv
  have hx := B.exec
  have hb := B.bytes
  have hr := B.returns
  have hts := atoms_spec (ws := wsX2_raiseHw) B.pre
  have hown : s.vm.findClass RX2 = some m.cls := findClass_of_methodNamed B.named
  have hlocks := B.notSynchronized
  have hi2 : ∀ w ∈ wsX20, w ∈ wsX2_raiseHw := by decide +kernel
  have hi4 : ∀ w ∈ wsX40, w ∈ wsX2_raiseHw := by decide +kernel
  have hl := lv_entry ([.ref a]) (n := 4) (Nat.le_of_ble_eq_true rfl)
  rw [lg_entry_eq]
  generalize (lg_sl ([.ref a]) ++ List.replicate (4 - (lg_sl ([.ref a])).length) Slot.unset).toArray = ls at hl ⊢
  have hl : lv_has ls 4 [(0, .ref a)] := hl
  subst hsz
  have hD := hD0.self (sz := s.heap.size)
  generalize hAe : va_A (va_pl L (pF cy K N T I Q J)) s.heap.size = A at hD ⊢
  have hA : ∀ q : Nat, s.heap.size ≤ q → A q := fun q h => by rw [← hAe]; exact Or.inr h
  have hS : va_S A s.heap s.heap [] := va_S.rf
  have hR : RS v I Q J I Q J := RS.rf
  have hn28 := hN.1
  have hn30 := hN.2.1
  have hn37 := hN.2.2.1
  refine lv_aload_n hx hb dX2_raiseHw_0 rfl (lv_at hl 0 rfl) ?_
  obtain ⟨j319, hj319⟩ := pG_2 (cy := cy) (N := N) (T := T) (I := I) (Q := Q) (J := J) ha hk
  refine va_csq (W.runV (As := []) (rest := []) ⟨hx, hb, hml, hown, hts⟩ (c_X2_leading l dC dI cy v L K N T I Q J a  hC ha hk) (cwV 0 hts gX2_raiseHw_X2_leading rfl rfl rfl (by decide +kernel) ⟨Nat.le_of_ble_eq_true rfl, Nat.le_of_ble_eq_true rfl⟩) ⟨pb_blind, va_recv hK hP (ci := 2) (q0 := j319) rfl hj319, fun U hU hW => ⟨rfl, pb_pre hP hK hN hU hW⟩⟩ rfl rfl hl.1 rfl (lv_room (Nat.le_of_ble_eq_true rfl)) dX2_raiseHw_1 ⟨Nat.le_of_ble_eq_true rfl, Nat.le_of_ble_eq_true rfl⟩) (fun r318 hr318 => ?_)
  cases r318 with
  | none =>
    refine W.eq (g2 := F0 m 4 ls [.null]) rfl ?_
    refine lv_astore_nN (lv' := [(1, .null), (0, .ref a)]) hx hb dX2_raiseHw_4 rfl hl (by decide) rfl (fun ls hl => ?_)
    refine lv_aload_nN hx hb dX2_raiseHw_5 rfl (lv_at hl 0 rfl) ?_
    refine lv_ifnonnullN hx hb dX2_raiseHw_6 ?_
    exact W.vret hx hb hr (fun t ht hW => ⟨⟨(I, Q, J), rfl, ⟨hC, hR⟩, by rw [ht]; exact hP, va_K.moved hW.alike hK, hD⟩, hS.F ht⟩) hS.2.2 dX2_raiseHw_9
  | some b320 =>
    have hTb320 := hr318 b320 rfl
    refine W.eq (g2 := F0 m 4 ls [.ref b320]) rfl ?_
    refine lv_astore_n (lv' := [(1, .ref b320), (0, .ref a)]) hx hb dX2_raiseHw_4 rfl hl (by decide) rfl (fun ls hl => ?_)
    refine lv_aload_n hx hb dX2_raiseHw_5 rfl (lv_at hl 0 rfl) ?_
    refine lv_ifnonnull (tgt := 10) hx hb dX2_raiseHw_6 (by decide) ?_
    refine lv_aload_n hx hb dX2_raiseHw_10 rfl (lv_at hl 0 rfl) ?_
    obtain ⟨j321, hj321⟩ := pG_4 (cy := cy) (N := N) (T := T) (I := I) (Q := Q) (J := J) hTb320.1 hTb320.2
    refine va_get (D := (dC, dI)) (ci := 4) (v := .int (I b320 2)) (C := RX4) (T := TX4) (N := 7) hx hb hts hi4 hown hK hP j321 hj321 rfl 2 (by decide) (hts (.fieldLink RX2 48 "TallyLogs$Replica" "end" "I") (by decide +kernel)) (fun _ h9 => h9) rfl dX2_raiseHw_11 ?_
    refine lv_topi (fun x322 ex322 => ?_)
    refine lv_istore_n (lv' := [(2, .int x322), (1, .ref b320), (0, .ref a)]) hx hb dX2_raiseHw_14 rfl hl (by decide) rfl (fun ls hl => ?_)
    refine lv_iconst (v := 0) hx hb dX2_raiseHw_15 (by decide) ?_
    refine lv_istore_n (lv' := [(3, .int 0), (2, .int x322), (1, .ref b320), (0, .ref a)]) hx hb dX2_raiseHw_16 rfl hl (by decide) rfl (fun ls hl => ?_)
    refine wq_gen (fun Qz hQz => ?_)
    have hLP323 : ∀ (n : Nat) (y324 y325 : Int32) (Ia323 : Nat → Nat → Int32) (Qa323 : Nat → Nat → Option Nat) (Ja323 : Nat → Nat → Int32) (H : Heap) (locs : List Loc) (ls : Array Slot), (((5 : Int32)).toInt - y324.toInt).toNat < n → 0 ≤ y324.toInt → CT v L K N T Ia323 Qa323 → RS v I Q J Ia323 Qa323 Ja323 → va_P (dC, dI) vwCl (va_pl L (pF cy K N T Ia323 Qa323 Ja323)) H → va_D A (va_pl L (pF cy K N T Ia323 Qa323 Ja323)) → va_S A s.heap H locs → lv_has ls 4 [(3, .int y324), (2, .int y325), (1, .ref b320), (0, .ref a)] → W p l e (headSpec wsX2_raiseHw ({ frames := 2, cells := 0, slots := 0, locals := 43 })).room s m ([.ref a] : List Value).toArray below meth c H locs 0 0 Qz (F0 m 17 ls []) := by
      intro n
      induction n with
      | zero => intro y324 y325 Ia323 Qa323 Ja323 H locs ls hms; exact absurd hms (Nat.not_lt_zero _)
      | succ n ih =>
        intro y324 y325 Ia323 Qa323 Ja323 H locs ls hms hnn323 hC hR hP hD hS hl
        refine lv_iload_n hx hb dX2_raiseHw_17 rfl (lv_at hl 0 rfl) ?_
        refine lv_iconst (v := 5) hx hb dX2_raiseHw_18 (by decide) ?_
        refine lv_icmp_ge (tgt := 49) hx hb dX2_raiseHw_19 (by decide) (fun c326 => ?_) (fun c326 => ?_)
        · refine lv_aload_n hx hb dX2_raiseHw_49 rfl (lv_at hl 2 rfl) ?_
          refine lv_aload_n hx hb dX2_raiseHw_50 rfl (lv_at hl 2 rfl) ?_
          obtain ⟨j327, hj327⟩ := pG_4 (cy := cy) (N := N) (T := T) (I := Ia323) (Q := Qa323) (J := Ja323) hTb320.1 hTb320.2
          refine va_get (D := (dC, dI)) (ci := 4) (v := .int (Ia323 b320 3)) (C := RX4) (T := TX4) (N := 7) hx hb hts hi4 hown hK hP j327 hj327 rfl 3 (by decide) (hts (.fieldLink RX2 66 "TallyLogs$Replica" "hw" "I") (by decide +kernel)) (fun _ h9 => h9) rfl dX2_raiseHw_51 ?_
          refine lv_topi (fun x328 ex328 => ?_)
          refine lv_iload_n hx hb dX2_raiseHw_54 rfl (lv_at hl 1 rfl) ?_
          refine va_mmax hx hb (by rw [hml]; exact hl.1.symm) hown (hts (.methodLink RX2 69 Lib.Math.max.name) (by decide +kernel)) (hts (.static Lib.Math.max.name) (by decide +kernel)) (hts (.initialized "java/lang/Math") (by decide +kernel)) (hts _ (List.mem_of_getElem? (i := 10) rfl)) (Nat.le_of_ble_eq_true rfl) (Nat.le_of_ble_eq_true rfl) (Nat.le_of_ble_eq_true rfl) (Nat.le_of_ble_eq_true rfl) dX2_raiseHw_55 ?_
          refine lv_topi (fun z329 ez329 => ?_)
          obtain ⟨j330, hj330⟩ := pG_4 (cy := cy) (N := N) (T := T) (I := Ia323) (Q := Qa323) (J := Ja323) hTb320.1 hTb320.2
          have hDo := hD
          refine va_put (D := (dC, dI)) (ci := 4) (v := .int z329) (ty := .int) (C := RX4) (T := TX4) (N := 7) hx hb hts hi4 tyX4 tyX4_ok nmX4 hown hK hP hD hS j330 hj330 rfl 3 (by decide) (hts (.fieldLink RX2 66 "TallyLogs$Replica" "hw" "I") (by decide +kernel)) (fun _ h9 => h9) rfl (by decide +kernel) rfl rfl (Nat.le_of_ble_eq_true rfl) dX2_raiseHw_58 (fun H locs hP hD hS => ?_)
          have hP := Eq.mp (congrArg (fun w => va_P (dC, dI) vwCl w H) (pP_4_3 (x := z329) hDo hTb320.1 hTb320.2 hj330)) hP
          obtain ⟨I331, eI331⟩ : ∃ z, z = p2 Ia323 b320 3 z329 := ⟨_, rfl⟩
          rw [← eI331] at hP
          have hR : RS v I Q J I331 Qa323 Ja323 := by rw [eI331]; exact hR.pi hC (by rw [hTb320.2]; decide)
          have hC : CT v L K N T I331 Qa323 := by rw [eI331]; exact hC.pi (by rw [hTb320.2]; decide)
          have hD : va_D A (va_pl L (pF cy K N T I331 Qa323 Ja323)) := pD hDo
          rw [hQz]
          exact W.vret hx hb hr (fun t ht hW => ⟨⟨(I331, Qa323, Ja323), rfl, ⟨hC, hR⟩, by rw [ht]; exact hP, va_K.moved hW.alike hK, hD⟩, hS.F ht⟩) hS.2.2 dX2_raiseHw_61
        · refine lv_aload_n hx hb dX2_raiseHw_22 rfl (lv_at hl 3 rfl) ?_
          obtain ⟨j332, hj332⟩ := pG_2 (cy := cy) (N := N) (T := T) (I := Ia323) (Q := Qa323) (J := Ja323) ha hk
          refine va_get (D := (dC, dI)) (ci := 2) (v := .int (Ia323 a 5)) (C := RX2) (T := TX2) (N := 6) hx hb hts hi2 hown hK hP j332 hj332 rfl 5 (by decide) (hts (.fieldLink RX2 27 "TallyLogs$Partition" "inStep" "I") (by decide +kernel)) (fun _ h9 => h9) rfl dX2_raiseHw_23 ?_
          refine lv_topi (fun x333 ex333 => ?_)
          refine lv_iload_n hx hb dX2_raiseHw_26 rfl (lv_at hl 0 rfl) ?_
          refine vp_callSi (va_Run.run (va_runSN (As := [.int x333, .int y324]) (rest := []) ⟨hx, hb, hml, hown, hts⟩ (c_X5_contains l x333 y324) ⟨va_cnB 2 hts gX2_raiseHw_X5_contains_n37 rfl rfl rfl hn37 (hts (.initialized RX5) (by decide +kernel)) (by decide +kernel) ⟨Nat.le_of_ble_eq_true rfl, Nat.le_of_ble_eq_true rfl⟩, hts (.static yX5_contains) (by decide +kernel), trivial⟩ preEq rfl rfl hl.1 rfl (lv_room (Nat.le_of_ble_eq_true rfl)) dX2_raiseHw_27 ⟨Nat.le_of_ble_eq_true rfl, Nat.le_of_ble_eq_true rfl⟩)) (fun r334 hr334 => ?_)
          refine lv_if_eq (tgt := 43) hx hb dX2_raiseHw_30 (by decide) (fun c335 => ?_) (fun c335 => ?_)
          · obtain ⟨v336, ev336⟩ : ∃ y : Int32, y = y324 + Int32.ofInt 1 := ⟨_, rfl⟩
            refine lv_iinc (v := v336) (lv' := [(3, .int v336), (2, .int y325), (1, .ref b320), (0, .ref a)]) hx hb dX2_raiseHw_43 hl (k := 0) rfl ev336.symm (by decide) rfl (fun ls hl => ?_)
            refine lv_goto (tgt := 17) hx hb dX2_raiseHw_46 (by decide) ?_
            exact ih _ _ _ _ _ _ _ _ (by have kc := c326; simp only [xk_le, xk_lt] at kc; have h9 := xinc (x := y324) (y := (5 : Int32)) (by rw [xk_lt]; omega); rw [ev336, show y324 + Int32.ofInt 1 = y324 + 1 from rfl, h9]; omega) (by have kc := c326; simp only [xk_le, xk_lt] at kc; have h9 := xinc (x := y324) (y := (5 : Int32)) (by rw [xk_lt]; omega); rw [ev336, show y324 + Int32.ofInt 1 = y324 + 1 from rfl, h9]; omega) hC hR hP hD hS (lv_sub hl [0, 1, 2, 3] rfl)
          · refine lv_iload_n hx hb dX2_raiseHw_33 rfl (lv_at hl 1 rfl) ?_
            refine lv_aload_n hx hb dX2_raiseHw_34 rfl (lv_at hl 3 rfl) ?_
            refine lv_iload_n hx hb dX2_raiseHw_35 rfl (lv_at hl 0 rfl) ?_
            obtain ⟨j338, hj338⟩ := pG_2 (cy := cy) (N := N) (T := T) (I := Ia323) (Q := Qa323) (J := Ja323) ha hk
            refine vp_callSi (W.runV (As := [.int y324]) (rest := [.int y325]) ⟨hx, hb, hml, hown, hts⟩ (c_X2_knownEnd l dC dI cy v L K N T Ia323 Qa323 Ja323 a y324 hC ha hk) (cwV 1 hts gX2_raiseHw_X2_knownEnd rfl rfl rfl (by decide +kernel) ⟨Nat.le_of_ble_eq_true rfl, Nat.le_of_ble_eq_true rfl⟩) ⟨pb_blind, va_recv hK hP (ci := 2) (q0 := j338) rfl hj338, fun U hU hW => ⟨rfl, pb_pre hP hK hN hU hW⟩⟩ rfl rfl hl.1 rfl (lv_room (Nat.le_of_ble_eq_true rfl)) dX2_raiseHw_36 ⟨Nat.le_of_ble_eq_true rfl, Nat.le_of_ble_eq_true rfl⟩) (fun r337 hr337 => ?_)
            refine va_mmin hx hb (by rw [hml]; exact hl.1.symm) hown (hts (.methodLink RX2 61 Lib.Math.min.name) (by decide +kernel)) (hts (.static Lib.Math.min.name) (by decide +kernel)) (hts (.initialized "java/lang/Math") (by decide +kernel)) (hts _ (List.mem_of_getElem? (i := 6) rfl)) (Nat.le_of_ble_eq_true rfl) (Nat.le_of_ble_eq_true rfl) (Nat.le_of_ble_eq_true rfl) (Nat.le_of_ble_eq_true rfl) dX2_raiseHw_39 ?_
            refine lv_topi (fun z339 ez339 => ?_)
            refine lv_istore_n (lv' := [(2, .int z339), (3, .int y324), (1, .ref b320), (0, .ref a)]) hx hb dX2_raiseHw_42 rfl hl (by decide) rfl (fun ls hl => ?_)
            obtain ⟨v340, ev340⟩ : ∃ y : Int32, y = y324 + Int32.ofInt 1 := ⟨_, rfl⟩
            refine lv_iinc (v := v340) (lv' := [(3, .int v340), (2, .int z339), (1, .ref b320), (0, .ref a)]) hx hb dX2_raiseHw_43 hl (k := 1) rfl ev340.symm (by decide) rfl (fun ls hl => ?_)
            refine lv_goto (tgt := 17) hx hb dX2_raiseHw_46 (by decide) ?_
            exact ih _ _ _ _ _ _ _ _ (by have kc := c326; simp only [xk_le, xk_lt] at kc; have h9 := xinc (x := y324) (y := (5 : Int32)) (by rw [xk_lt]; omega); rw [ev340, show y324 + Int32.ofInt 1 = y324 + 1 from rfl, h9]; omega) (by have kc := c326; simp only [xk_le, xk_lt] at kc; have h9 := xinc (x := y324) (y := (5 : Int32)) (by rw [xk_lt]; omega); rw [ev340, show y324 + Int32.ofInt 1 = y324 + 1 from rfl, h9]; omega) hC hR hP hD hS (lv_sub hl [0, 1, 2, 3] rfl)
    exact hLP323 _ _ _ _ _ _ _ _ _ (Nat.lt_succ_self _) (by decide) hC hR hP hD hS (lv_sub hl [0, 1, 2, 3] rfl)
end
section
set_option maxHeartbeats 4000000 in
set_option maxRecDepth 100000 in
/-- Partition.putLeader -/
theorem c_X2_putLeader (l : Launch) (dC : Nat → ClassId) (dI : Nat → Nat → Nat) (cy : Nat → ClassId) (v : Nat → Nat) (L : List Nat) (K N : Nat → Nat) (T : Nat → Nat → Nat) (I : Nat → Nat → Int32) (Q : Nat → Nat → Option Nat) (J : Nat → Nat → Int32) (sz : Nat) (a : Nat) (nx : Int32) (nw : Int32) (hC : CT v L K N T I Q) (ha : a ∈ L) (hk : K a = 2) : Met l yX2_putLeader wsX2_putLeader ({ frames := 3, cells := 0, slots := 0, locals := 66 }) (va_Pc [.ref a, .int nx, .int nw] (pW dC dI cy L (pF cy K N T I Q J) sz)) (va_Qv (fun d : (Nat → Nat → Int32) × (Nat → Nat → Option Nat) × (Nat → Nat → Int32) => CT v L K N T d.1 d.2.1 ∧ RS v I Q J d.1 d.2.1 d.2.2) (fun (d : (Nat → Nat → Int32) × (Nat → Nat → Option Nat) × (Nat → Nat → Int32)) t => va_P (dC, dI) vwCl (va_pl L (pF cy K N T d.1 d.2.1 d.2.2)) t.heap ∧ va_K (dC, dI) vwCl (pTy cy) t ∧ va_D (va_A (va_pl L (pF cy K N T I Q J)) sz) (va_pl L (pF cy K N T d.1 d.2.1 d.2.2))) (va_A (va_pl L (pF cy K N T I Q J)) sz)) 0 0 (va_A (va_pl L (pF cy K N T I Q J)) sz) := by
  refine Met.ofW (cc := cX2_putLeader) (maxL := 5) (ret := none) (by decide) rfl ?_
  intro p e s m args below meth c s₁ B hml hv
  obtain ⟨rfl, hsz, ⟨hP, hK, hN⟩, hD0⟩ := hv
  have hx := B.exec
  have hb := B.bytes
  have hr := B.returns
  have hts := atoms_spec (ws := wsX2_putLeader) B.pre
  have hown : s.vm.findClass RX2 = some m.cls := findClass_of_methodNamed B.named
  have hlocks := B.notSynchronized
  have hi2 : ∀ w ∈ wsX20, w ∈ wsX2_putLeader := by decide +kernel
  have hi4 : ∀ w ∈ wsX40, w ∈ wsX2_putLeader := by decide +kernel
  have hl := lv_entry ([.ref a, .int nx, .int nw]) (n := 5) (Nat.le_of_ble_eq_true rfl)
  rw [lg_entry_eq]
  generalize (lg_sl ([.ref a, .int nx, .int nw]) ++ List.replicate (5 - (lg_sl ([.ref a, .int nx, .int nw])).length) Slot.unset).toArray = ls at hl ⊢
  have hl : lv_has ls 5 [(0, .ref a), (1, .int nx), (2, .int nw)] := hl
  subst hsz
  have hD := hD0.self (sz := s.heap.size)
  generalize hAe : va_A (va_pl L (pF cy K N T I Q J)) s.heap.size = A at hD ⊢
  have hA : ∀ q : Nat, s.heap.size ≤ q → A q := fun q h => by rw [← hAe]; exact Or.inr h
  have hS : va_S A s.heap s.heap [] := va_S.rf
  have hR : RS v I Q J I Q J := RS.rf
  have hn28 := hN.1
  have hn30 := hN.2.1
  have hn37 := hN.2.2.1
  refine lv_aload_n hx hb dX2_putLeader_0 rfl (lv_at hl 0 rfl) ?_
  refine lv_iload_n hx hb dX2_putLeader_1 rfl (lv_at hl 1 rfl) ?_
  obtain ⟨j341, hj341⟩ := pG_2 (cy := cy) (N := N) (T := T) (I := I) (Q := Q) (J := J) ha hk
  have hDo := hD
  refine va_put (D := (dC, dI)) (ci := 2) (v := .int nx) (ty := .int) (C := RX2) (T := TX2) (N := 6) hx hb hts hi2 tyX2 tyX2_ok nmX2 hown hK hP hD hS j341 hj341 rfl 3 (by decide) (hts (.fieldLink RX2 34 "TallyLogs$Partition" "leader" "I") (by decide +kernel)) (fun _ h9 => h9) rfl (by decide +kernel) rfl rfl (Nat.le_of_ble_eq_true rfl) dX2_putLeader_2 (fun H locs hP hD hS => ?_)
  have hP := Eq.mp (congrArg (fun w => va_P (dC, dI) vwCl w H) (pP_2_3 (x := nx) hDo ha hk hj341)) hP
  obtain ⟨I342, eI342⟩ : ∃ z, z = p2 I a 3 nx := ⟨_, rfl⟩
  rw [← eI342] at hP
  have hR : RS v I Q J I342 Q J := by rw [eI342]; exact hR.pi hC (by rw [hk]; decide)
  have hC : CT v L K N T I342 Q := by rw [eI342]; exact hC.pi (by rw [hk]; decide)
  have hD : va_D A (va_pl L (pF cy K N T I342 Q J)) := pD hDo
  refine lv_aload_n hx hb dX2_putLeader_5 rfl (lv_at hl 0 rfl) ?_
  refine lv_dup hx hb dX2_putLeader_6 rfl ?_
  obtain ⟨j343, hj343⟩ := pG_2 (cy := cy) (N := N) (T := T) (I := I342) (Q := Q) (J := J) ha hk
  refine va_get (D := (dC, dI)) (ci := 2) (v := .int (I342 a 4)) (C := RX2) (T := TX2) (N := 6) hx hb hts hi2 hown hK hP j343 hj343 rfl 4 (by decide) (hts (.fieldLink RX2 17 "TallyLogs$Partition" "epoch" "I") (by decide +kernel)) (fun _ h9 => h9) rfl dX2_putLeader_7 ?_
  refine lv_topi (fun x344 ex344 => ?_)
  refine lv_iconst (v := 1) hx hb dX2_putLeader_10 (by decide) ?_
  refine lv_iadd hx hb dX2_putLeader_11 ?_
  refine lv_topi (fun v345 ev345 => ?_)
  obtain ⟨j346, hj346⟩ := pG_2 (cy := cy) (N := N) (T := T) (I := I342) (Q := Q) (J := J) ha hk
  have hDo := hD
  refine va_put (D := (dC, dI)) (ci := 2) (v := .int v345) (ty := .int) (C := RX2) (T := TX2) (N := 6) hx hb hts hi2 tyX2 tyX2_ok nmX2 hown hK hP hD hS j346 hj346 rfl 4 (by decide) (hts (.fieldLink RX2 17 "TallyLogs$Partition" "epoch" "I") (by decide +kernel)) (fun _ h9 => h9) rfl (by decide +kernel) rfl rfl (Nat.le_of_ble_eq_true rfl) dX2_putLeader_12 (fun H locs hP hD hS => ?_)
  have hP := Eq.mp (congrArg (fun w => va_P (dC, dI) vwCl w H) (pP_2_4 (x := v345) hDo ha hk hj346)) hP
  obtain ⟨I347, eI347⟩ : ∃ z, z = p2 I342 a 4 v345 := ⟨_, rfl⟩
  rw [← eI347] at hP
  have hR : RS v I Q J I347 Q J := by rw [eI347]; exact hR.pi hC (by rw [hk]; decide)
  have hC : CT v L K N T I347 Q := by rw [eI347]; exact hC.pi (by rw [hk]; decide)
  have hD : va_D A (va_pl L (pF cy K N T I347 Q J)) := pD hDo
  refine lv_iconst (v := 0) hx hb dX2_putLeader_15 (by decide) ?_
  refine lv_istore_n (lv' := [(3, .int 0), (0, .ref a), (1, .int nx), (2, .int nw)]) hx hb dX2_putLeader_16 rfl hl (by decide) rfl (fun ls hl => ?_)
  refine wq_gen (fun Qz hQz => ?_)
  have hLP348 : ∀ (n : Nat) (y349 : Int32) (Ia348 : Nat → Nat → Int32) (Qa348 : Nat → Nat → Option Nat) (Ja348 : Nat → Nat → Int32) (H : Heap) (locs : List Loc) (ls : Array Slot), (((5 : Int32)).toInt - y349.toInt).toNat < n → 0 ≤ y349.toInt → CT v L K N T Ia348 Qa348 → RS v I Q J Ia348 Qa348 Ja348 → va_P (dC, dI) vwCl (va_pl L (pF cy K N T Ia348 Qa348 Ja348)) H → va_D A (va_pl L (pF cy K N T Ia348 Qa348 Ja348)) → va_S A s.heap H locs → lv_has ls 5 [(3, .int y349), (0, .ref a), (1, .int nx), (2, .int nw)] → W p l e (headSpec wsX2_putLeader ({ frames := 3, cells := 0, slots := 0, locals := 66 })).room s m ([.ref a, .int nx, .int nw] : List Value).toArray below meth c H locs 0 0 Qz (F0 m 17 ls []) := by
    intro n
    induction n with
    | zero => intro y349 Ia348 Qa348 Ja348 H locs ls hms; exact absurd hms (Nat.not_lt_zero _)
    | succ n ih =>
      intro y349 Ia348 Qa348 Ja348 H locs ls hms hnn348 hC hR hP hD hS hl
      refine lv_iload_n hx hb dX2_putLeader_17 rfl (lv_at hl 0 rfl) ?_
      refine lv_iconst (v := 5) hx hb dX2_putLeader_18 (by decide) ?_
      refine lv_icmp_ge (tgt := 61) hx hb dX2_putLeader_19 (by decide) (fun c350 => ?_) (fun c350 => ?_)
      · refine lv_aload_n hx hb dX2_putLeader_61 rfl (lv_at hl 1 rfl) ?_
        obtain ⟨j351, hj351⟩ := pG_2 (cy := cy) (N := N) (T := T) (I := Ia348) (Q := Qa348) (J := Ja348) ha hk
        have hFc := pfree hD hS hA
        refine va_callv (va_runV (As := []) (rest := []) ⟨hx, hb, hml, hown, hts⟩ (c_X2_raiseHw l dC dI cy v L K N T Ia348 Qa348 Ja348 H.size a  hC ha hk) (cwV 0 hts gX2_putLeader_X2_raiseHw rfl rfl rfl (by decide +kernel) ⟨Nat.le_of_ble_eq_true rfl, Nat.le_of_ble_eq_true rfl⟩) ⟨pw_blind, va_recv hK hP (ci := 2) (q0 := j351) rfl hj351, fun U hU hW => ⟨rfl, pw_pre hP hK hN hD hU hW⟩⟩ rfl rfl hl.1 rfl (lv_room (Nat.le_of_ble_eq_true rfl)) dX2_putLeader_62 ⟨Nat.le_of_ble_eq_true rfl, Nat.le_of_ble_eq_true rfl⟩) hS (fun q _ h => hFc q h) hFc (fun d9 t H1 locs ht hvm hw hB hz1 hk1 hS => ?_)
        obtain ⟨I352, Q352, J352⟩ := d9
        obtain ⟨hC, hR1⟩ := hw
        obtain ⟨hP, hK1, hD1⟩ := hB
        rw [ht] at hP
        have hD := hD1.weaken (fun _ _ _ h => hFc _ h)
        have hR := hR.trans hR1
        generalize H1 = H at hP hS ⊢
        have hP : va_P (dC, dI) vwCl (va_pl L (pF cy K N T I352 Q352 J352)) H := hP
        have hD : va_D A (va_pl L (pF cy K N T I352 Q352 J352)) := hD
        have hC : CT v L K N T I352 Q352 := hC
        have hR : RS v I Q J I352 Q352 J352 := hR
        rw [hQz]
        exact W.vret hx hb hr (fun t ht hW => ⟨⟨(I352, Q352, J352), rfl, ⟨hC, hR⟩, by rw [ht]; exact hP, va_K.moved hW.alike hK, hD⟩, hS.F ht⟩) hS.2.2 dX2_putLeader_65
      · refine lv_aload_n hx hb dX2_putLeader_22 rfl (lv_at hl 1 rfl) ?_
        obtain ⟨j354, hj354⟩ := pG_2 (cy := cy) (N := N) (T := T) (I := Ia348) (Q := Qa348) (J := Ja348) ha hk
        refine va_get (D := (dC, dI)) (ci := 2) (v := .ref (T a 2)) (C := RX2) (T := TX2) (N := 6) hx hb hts hi2 hown hK hP j354 hj354 rfl 2 (by decide) (hts (.fieldLink RX2 11 "TallyLogs$Partition" "replicas" "[LTallyLogs$Replica;") (by decide +kernel)) (fun _ h9 => h9) rfl dX2_putLeader_23 ?_
        obtain ⟨t355, et355⟩ : ∃ t, t = T a 2 := ⟨_, rfl⟩
        have hLt355 : t355 ∈ L := by rw [et355]; exact (hC.2.2.2.2.1 a ha hk).1
        have hkt355 : K t355 = 12 := by rw [et355]; exact (hC.2.2.2.2.1 a ha hk).2
        refine W.eq (g2 := F0 m 26 ls [.ref t355]) (by rw [et355]) ?_
        refine lv_iload_n hx hb dX2_putLeader_26 rfl (lv_at hl 0 rfl) ?_
        obtain ⟨j356, hj356⟩ := pG_12 (cy := cy) (N := N) (T := T) (I := Ia348) (Q := Qa348) (J := Ja348) hLt355 hkt355
        refine va_aldq hx hb hK hP j356 5 hj356 rfl (xin_of hnn348 (by have kc := c350; simp only [xk_lt, xk_le, xk_0, xk_1, xk_2, xk_3, xk_4, xk_5, xk_6, xk_7, xk_8, xk_50] at kc; omega)) dX2_putLeader_27 ?_
        cases hq358 : Qa348 t355 y349.toNatClampNeg with
        | none =>
          refine W.eq (g2 := F0 m 28 ls [.null]) rfl ?_
          refine lv_astoreN (lv' := [(4, .null), (3, .int y349), (0, .ref a), (1, .int nx), (2, .int nw)]) hx hb dX2_putLeader_28 hl (by decide) rfl (fun ls hl => ?_)
          refine lv_aloadN hx hb dX2_putLeader_30 (lv_at hl 0 rfl) ?_
          refine lv_ifnonnullN hx hb dX2_putLeader_32 ?_
          refine lv_goto (tgt := 55) hx hb dX2_putLeader_35 (by decide) ?_
          obtain ⟨v359, ev359⟩ : ∃ y : Int32, y = y349 + Int32.ofInt 1 := ⟨_, rfl⟩
          refine lv_iinc (v := v359) (lv' := [(3, .int v359), (4, .null), (0, .ref a), (1, .int nx), (2, .int nw)]) hx hb dX2_putLeader_55 hl (k := 1) rfl ev359.symm (by decide) rfl (fun ls hl => ?_)
          refine lv_goto (tgt := 17) hx hb dX2_putLeader_58 (by decide) ?_
          exact ih _ _ _ _ _ _ _ (by have kc := c350; simp only [xk_le, xk_lt] at kc; have h9 := xinc (x := y349) (y := (5 : Int32)) (by rw [xk_lt]; omega); rw [ev359, show y349 + Int32.ofInt 1 = y349 + 1 from rfl, h9]; omega) (by have kc := c350; simp only [xk_le, xk_lt] at kc; have h9 := xinc (x := y349) (y := (5 : Int32)) (by rw [xk_lt]; omega); rw [ev359, show y349 + Int32.ofInt 1 = y349 + 1 from rfl, h9]; omega) hC hR hP hD hS (lv_sub hl [0, 2, 3, 4] rfl)
        | some b357 =>
          have hTb357 := (hC.2.2.2.2.2.1 t355 hLt355 hkt355 y349.toNatClampNeg b357 (vp_lt (xin_of hnn348 (by have kc := c350; simp only [xk_lt, xk_le, xk_0, xk_1, xk_2, xk_3, xk_4, xk_5, xk_6, xk_7, xk_8, xk_50] at kc; omega))) hq358)
          refine W.eq (g2 := F0 m 28 ls [.ref b357]) rfl ?_
          refine lv_astore (lv' := [(4, .ref b357), (3, .int y349), (0, .ref a), (1, .int nx), (2, .int nw)]) hx hb dX2_putLeader_28 hl (by decide) rfl (fun ls hl => ?_)
          refine lv_aload hx hb dX2_putLeader_30 (lv_at hl 0 rfl) ?_
          refine lv_ifnonnull (tgt := 38) hx hb dX2_putLeader_32 (by decide) ?_
          refine lv_aload hx hb dX2_putLeader_38 (lv_at hl 0 rfl) ?_
          refine lv_iload_n hx hb dX2_putLeader_40 rfl (lv_at hl 4 rfl) ?_
          obtain ⟨j360, hj360⟩ := pG_4 (cy := cy) (N := N) (T := T) (I := Ia348) (Q := Qa348) (J := Ja348) hTb357.1 hTb357.2
          have hDo := hD
          refine va_put (D := (dC, dI)) (ci := 4) (v := .int nw) (ty := .int) (C := RX4) (T := TX4) (N := 7) hx hb hts hi4 tyX4 tyX4_ok nmX4 hown hK hP hD hS j360 hj360 rfl 6 (by decide) (hts (.fieldLink RX2 72 "TallyLogs$Replica" "caught" "I") (by decide +kernel)) (fun _ h9 => h9) rfl (by decide +kernel) rfl rfl (Nat.le_of_ble_eq_true rfl) dX2_putLeader_41 (fun H locs hP hD hS => ?_)
          have hP := Eq.mp (congrArg (fun w => va_P (dC, dI) vwCl w H) (pP_4_6 (x := nw) hDo hTb357.1 hTb357.2 hj360)) hP
          obtain ⟨I361, eI361⟩ : ∃ z, z = p2 Ia348 b357 6 nw := ⟨_, rfl⟩
          rw [← eI361] at hP
          have hR : RS v I Q J I361 Qa348 Ja348 := by rw [eI361]; exact hR.pi hC (by rw [hTb357.2]; decide)
          have hC : CT v L K N T I361 Qa348 := by rw [eI361]; exact hC.pi (by rw [hTb357.2]; decide)
          have hD : va_D A (va_pl L (pF cy K N T I361 Qa348 Ja348)) := pD hDo
          refine lv_iload_n hx hb dX2_putLeader_44 rfl (lv_at hl 1 rfl) ?_
          refine lv_iload_n hx hb dX2_putLeader_45 rfl (lv_at hl 3 rfl) ?_
          refine lv_icmp_eq (tgt := 55) hx hb dX2_putLeader_46 (by decide) (fun c362 => ?_) (fun c362 => ?_)
          · obtain ⟨v363, ev363⟩ : ∃ y : Int32, y = y349 + Int32.ofInt 1 := ⟨_, rfl⟩
            refine lv_iinc (v := v363) (lv' := [(3, .int v363), (4, .ref b357), (0, .ref a), (1, .int nx), (2, .int nw)]) hx hb dX2_putLeader_55 hl (k := 1) rfl ev363.symm (by decide) rfl (fun ls hl => ?_)
            refine lv_goto (tgt := 17) hx hb dX2_putLeader_58 (by decide) ?_
            exact ih _ _ _ _ _ _ _ (by have kc := c350; simp only [xk_le, xk_lt] at kc; have h9 := xinc (x := y349) (y := (5 : Int32)) (by rw [xk_lt]; omega); rw [ev363, show y349 + Int32.ofInt 1 = y349 + 1 from rfl, h9]; omega) (by have kc := c350; simp only [xk_le, xk_lt] at kc; have h9 := xinc (x := y349) (y := (5 : Int32)) (by rw [xk_lt]; omega); rw [ev363, show y349 + Int32.ofInt 1 = y349 + 1 from rfl, h9]; omega) hC hR hP hD hS (lv_sub hl [0, 2, 3, 4] rfl)
          · refine lv_aload hx hb dX2_putLeader_49 (lv_at hl 0 rfl) ?_
            refine lv_iconst (v := (-1)) hx hb dX2_putLeader_51 (by decide) ?_
            obtain ⟨j364, hj364⟩ := pG_4 (cy := cy) (N := N) (T := T) (I := I361) (Q := Qa348) (J := Ja348) hTb357.1 hTb357.2
            have hDo := hD
            refine va_put (D := (dC, dI)) (ci := 4) (v := .int (-1)) (ty := .int) (C := RX4) (T := TX4) (N := 7) hx hb hts hi4 tyX4 tyX4_ok nmX4 hown hK hP hD hS j364 hj364 rfl 5 (by decide) (hts (.fieldLink RX2 51 "TallyLogs$Replica" "known" "I") (by decide +kernel)) (fun _ h9 => h9) rfl (by decide +kernel) rfl rfl (Nat.le_of_ble_eq_true rfl) dX2_putLeader_52 (fun H locs hP hD hS => ?_)
            have hP := Eq.mp (congrArg (fun w => va_P (dC, dI) vwCl w H) (pP_4_5 (x := (-1)) hDo hTb357.1 hTb357.2 hj364)) hP
            obtain ⟨I365, eI365⟩ : ∃ z, z = p2 I361 b357 5 (-1) := ⟨_, rfl⟩
            rw [← eI365] at hP
            have hR : RS v I Q J I365 Qa348 Ja348 := by rw [eI365]; exact hR.pi hC (by rw [hTb357.2]; decide)
            have hC : CT v L K N T I365 Qa348 := by rw [eI365]; exact hC.pi (by rw [hTb357.2]; decide)
            have hD : va_D A (va_pl L (pF cy K N T I365 Qa348 Ja348)) := pD hDo
            obtain ⟨v366, ev366⟩ : ∃ y : Int32, y = y349 + Int32.ofInt 1 := ⟨_, rfl⟩
            refine lv_iinc (v := v366) (lv' := [(3, .int v366), (4, .ref b357), (0, .ref a), (1, .int nx), (2, .int nw)]) hx hb dX2_putLeader_55 hl (k := 1) rfl ev366.symm (by decide) rfl (fun ls hl => ?_)
            refine lv_goto (tgt := 17) hx hb dX2_putLeader_58 (by decide) ?_
            exact ih _ _ _ _ _ _ _ (by have kc := c350; simp only [xk_le, xk_lt] at kc; have h9 := xinc (x := y349) (y := (5 : Int32)) (by rw [xk_lt]; omega); rw [ev366, show y349 + Int32.ofInt 1 = y349 + 1 from rfl, h9]; omega) (by have kc := c350; simp only [xk_le, xk_lt] at kc; have h9 := xinc (x := y349) (y := (5 : Int32)) (by rw [xk_lt]; omega); rw [ev366, show y349 + Int32.ofInt 1 = y349 + 1 from rfl, h9]; omega) hC hR hP hD hS (lv_sub hl [0, 2, 3, 4] rfl)
  exact hLP348 _ _ _ _ _ _ _ _ (Nat.lt_succ_self _) (by decide) hC hR hP hD hS (lv_sub hl [0, 1, 2, 3] rfl)
set_option maxHeartbeats 4000000 in
set_option maxRecDepth 100000 in
/-- Partition.dropLate -/
theorem c_X2_dropLate (l : Launch) (dC : Nat → ClassId) (dI : Nat → Nat → Nat) (cy : Nat → ClassId) (v : Nat → Nat) (L : List Nat) (K N : Nat → Nat) (T : Nat → Nat → Nat) (I : Nat → Nat → Int32) (Q : Nat → Nat → Option Nat) (J : Nat → Nat → Int32) (sz : Nat) (a : Nat) (nw : Int32) (hC : CT v L K N T I Q) (ha : a ∈ L) (hk : K a = 2) : Met l yX2_dropLate wsX2_dropLate ({ frames := 3, cells := 0, slots := 0, locals := 66 }) (va_Pc [.ref a, .int nw] (pW dC dI cy L (pF cy K N T I Q J) sz)) (va_Qi (fun (r : Int32) (d : (Nat → Nat → Int32) × (Nat → Nat → Option Nat) × (Nat → Nat → Int32)) => (CT v L K N T d.1 d.2.1 ∧ RS v I Q J d.1 d.2.1 d.2.2) ∧ True) (fun (d : (Nat → Nat → Int32) × (Nat → Nat → Option Nat) × (Nat → Nat → Int32)) t => va_P (dC, dI) vwCl (va_pl L (pF cy K N T d.1 d.2.1 d.2.2)) t.heap ∧ va_K (dC, dI) vwCl (pTy cy) t ∧ va_D (va_A (va_pl L (pF cy K N T I Q J)) sz) (va_pl L (pF cy K N T d.1 d.2.1 d.2.2))) (va_A (va_pl L (pF cy K N T I Q J)) sz)) 0 0 (va_A (va_pl L (pF cy K N T I Q J)) sz) := by
  refine Met.ofW (cc := cX2_dropLate) (maxL := 5) (ret := (some .int)) (by decide) rfl ?_
  intro p e s m args below meth c s₁ B hml hv
  obtain ⟨rfl, hsz, ⟨hP, hK, hN⟩, hD0⟩ := hv
  have hx := B.exec
  have hb := B.bytes
  have hr := B.returns
  have hts := atoms_spec (ws := wsX2_dropLate) B.pre
  have hown : s.vm.findClass RX2 = some m.cls := findClass_of_methodNamed B.named
  have hlocks := B.notSynchronized
  have hi2 : ∀ w ∈ wsX20, w ∈ wsX2_dropLate := by decide +kernel
  have hi4 : ∀ w ∈ wsX40, w ∈ wsX2_dropLate := by decide +kernel
  have hl := lv_entry ([.ref a, .int nw]) (n := 5) (Nat.le_of_ble_eq_true rfl)
  rw [lg_entry_eq]
  generalize (lg_sl ([.ref a, .int nw]) ++ List.replicate (5 - (lg_sl ([.ref a, .int nw])).length) Slot.unset).toArray = ls at hl ⊢
  have hl : lv_has ls 5 [(0, .ref a), (1, .int nw)] := hl
  subst hsz
  have hD := hD0.self (sz := s.heap.size)
  generalize hAe : va_A (va_pl L (pF cy K N T I Q J)) s.heap.size = A at hD ⊢
  have hA : ∀ q : Nat, s.heap.size ≤ q → A q := fun q h => by rw [← hAe]; exact Or.inr h
  have hS : va_S A s.heap s.heap [] := va_S.rf
  have hR : RS v I Q J I Q J := RS.rf
  have hn28 := hN.1
  have hn30 := hN.2.1
  have hn37 := hN.2.2.1
  refine lv_aload_n hx hb dX2_dropLate_0 rfl (lv_at hl 0 rfl) ?_
  obtain ⟨j368, hj368⟩ := pG_2 (cy := cy) (N := N) (T := T) (I := I) (Q := Q) (J := J) ha hk
  refine va_csq (W.runV (As := []) (rest := []) ⟨hx, hb, hml, hown, hts⟩ (c_X2_leading l dC dI cy v L K N T I Q J a  hC ha hk) (cwV 0 hts gX2_dropLate_X2_leading rfl rfl rfl (by decide +kernel) ⟨Nat.le_of_ble_eq_true rfl, Nat.le_of_ble_eq_true rfl⟩) ⟨pb_blind, va_recv hK hP (ci := 2) (q0 := j368) rfl hj368, fun U hU hW => ⟨rfl, pb_pre hP hK hN hU hW⟩⟩ rfl rfl hl.1 rfl (lv_room (Nat.le_of_ble_eq_true rfl)) dX2_dropLate_1 ⟨Nat.le_of_ble_eq_true rfl, Nat.le_of_ble_eq_true rfl⟩) (fun r367 hr367 => ?_)
  cases r367 with
  | none =>
    refine W.eq (g2 := F0 m 4 ls [.null]) rfl ?_
    refine lv_ifnonnullN hx hb dX2_dropLate_4 ?_
    refine lv_iconst (v := 0) hx hb dX2_dropLate_7 (by decide) ?_
    exact W.iret (v := 0) hx hb hr (fun t ht hW => ⟨⟨0, (I, Q, J), rfl, ⟨⟨hC, hR⟩, trivial⟩, by rw [ht]; exact hP, va_K.moved hW.alike hK, hD⟩, hS.F ht⟩) hS.2.2 dX2_dropLate_8
  | some b369 =>
    have hTb369 := hr367 b369 rfl
    refine W.eq (g2 := F0 m 4 ls [.ref b369]) rfl ?_
    refine lv_ifnonnull (tgt := 9) hx hb dX2_dropLate_4 (by decide) ?_
    refine lv_iconst (v := 0) hx hb dX2_dropLate_9 (by decide) ?_
    refine lv_istore_n (lv' := [(2, .int 0), (0, .ref a), (1, .int nw)]) hx hb dX2_dropLate_10 rfl hl (by decide) rfl (fun ls hl => ?_)
    refine lv_iconst (v := 0) hx hb dX2_dropLate_11 (by decide) ?_
    refine lv_istore_n (lv' := [(3, .int 0), (2, .int 0), (0, .ref a), (1, .int nw)]) hx hb dX2_dropLate_12 rfl hl (by decide) rfl (fun ls hl => ?_)
    refine wq_gen (fun Qz hQz => ?_)
    have hLP370 : ∀ (n : Nat) (y371 y372 : Int32) (Ia370 : Nat → Nat → Int32) (Qa370 : Nat → Nat → Option Nat) (Ja370 : Nat → Nat → Int32) (H : Heap) (locs : List Loc) (ls : Array Slot), (((5 : Int32)).toInt - y371.toInt).toNat < n → 0 ≤ y371.toInt → CT v L K N T Ia370 Qa370 → RS v I Q J Ia370 Qa370 Ja370 → va_P (dC, dI) vwCl (va_pl L (pF cy K N T Ia370 Qa370 Ja370)) H → va_D A (va_pl L (pF cy K N T Ia370 Qa370 Ja370)) → va_S A s.heap H locs → lv_has ls 5 [(3, .int y371), (2, .int y372), (0, .ref a), (1, .int nw)] → W p l e (headSpec wsX2_dropLate ({ frames := 3, cells := 0, slots := 0, locals := 66 })).room s m ([.ref a, .int nw] : List Value).toArray below meth c H locs 0 0 Qz (F0 m 13 ls []) := by
      intro n
      induction n with
      | zero => intro y371 y372 Ia370 Qa370 Ja370 H locs ls hms; exact absurd hms (Nat.not_lt_zero _)
      | succ n ih =>
        intro y371 y372 Ia370 Qa370 Ja370 H locs ls hms hnn370 hC hR hP hD hS hl
        refine lv_iload_n hx hb dX2_dropLate_13 rfl (lv_at hl 0 rfl) ?_
        refine lv_iconst (v := 5) hx hb dX2_dropLate_14 (by decide) ?_
        refine lv_icmp_ge (tgt := 85) hx hb dX2_dropLate_15 (by decide) (fun c373 => ?_) (fun c373 => ?_)
        · refine lv_aload_n hx hb dX2_dropLate_85 rfl (lv_at hl 2 rfl) ?_
          obtain ⟨j374, hj374⟩ := pG_2 (cy := cy) (N := N) (T := T) (I := Ia370) (Q := Qa370) (J := Ja370) ha hk
          have hFc := pfree hD hS hA
          refine va_callv (va_runV (As := []) (rest := []) ⟨hx, hb, hml, hown, hts⟩ (c_X2_raiseHw l dC dI cy v L K N T Ia370 Qa370 Ja370 H.size a  hC ha hk) (cwV 0 hts gX2_dropLate_X2_raiseHw rfl rfl rfl (by decide +kernel) ⟨Nat.le_of_ble_eq_true rfl, Nat.le_of_ble_eq_true rfl⟩) ⟨pw_blind, va_recv hK hP (ci := 2) (q0 := j374) rfl hj374, fun U hU hW => ⟨rfl, pw_pre hP hK hN hD hU hW⟩⟩ rfl rfl hl.1 rfl (lv_room (Nat.le_of_ble_eq_true rfl)) dX2_dropLate_86 ⟨Nat.le_of_ble_eq_true rfl, Nat.le_of_ble_eq_true rfl⟩) hS (fun q _ h => hFc q h) hFc (fun d9 t H1 locs ht hvm hw hB hz1 hk1 hS => ?_)
          obtain ⟨I375, Q375, J375⟩ := d9
          obtain ⟨hC, hR1⟩ := hw
          obtain ⟨hP, hK1, hD1⟩ := hB
          rw [ht] at hP
          have hD := hD1.weaken (fun _ _ _ h => hFc _ h)
          have hR := hR.trans hR1
          generalize H1 = H at hP hS ⊢
          have hP : va_P (dC, dI) vwCl (va_pl L (pF cy K N T I375 Q375 J375)) H := hP
          have hD : va_D A (va_pl L (pF cy K N T I375 Q375 J375)) := hD
          have hC : CT v L K N T I375 Q375 := hC
          have hR : RS v I Q J I375 Q375 J375 := hR
          refine lv_iload_n hx hb dX2_dropLate_89 rfl (lv_at hl 1 rfl) ?_
          rw [hQz]
          exact W.iret (v := y372) hx hb hr (fun t ht hW => ⟨⟨y372, (I375, Q375, J375), rfl, ⟨⟨hC, hR⟩, trivial⟩, by rw [ht]; exact hP, va_K.moved hW.alike hK, hD⟩, hS.F ht⟩) hS.2.2 dX2_dropLate_90
        · refine lv_aload_n hx hb dX2_dropLate_18 rfl (lv_at hl 2 rfl) ?_
          obtain ⟨j377, hj377⟩ := pG_2 (cy := cy) (N := N) (T := T) (I := Ia370) (Q := Qa370) (J := Ja370) ha hk
          refine va_get (D := (dC, dI)) (ci := 2) (v := .ref (T a 2)) (C := RX2) (T := TX2) (N := 6) hx hb hts hi2 hown hK hP j377 hj377 rfl 2 (by decide) (hts (.fieldLink RX2 11 "TallyLogs$Partition" "replicas" "[LTallyLogs$Replica;") (by decide +kernel)) (fun _ h9 => h9) rfl dX2_dropLate_19 ?_
          obtain ⟨t378, et378⟩ : ∃ t, t = T a 2 := ⟨_, rfl⟩
          have hLt378 : t378 ∈ L := by rw [et378]; exact (hC.2.2.2.2.1 a ha hk).1
          have hkt378 : K t378 = 12 := by rw [et378]; exact (hC.2.2.2.2.1 a ha hk).2
          refine W.eq (g2 := F0 m 22 ls [.ref t378]) (by rw [et378]) ?_
          refine lv_iload_n hx hb dX2_dropLate_22 rfl (lv_at hl 0 rfl) ?_
          obtain ⟨j379, hj379⟩ := pG_12 (cy := cy) (N := N) (T := T) (I := Ia370) (Q := Qa370) (J := Ja370) hLt378 hkt378
          refine va_aldq hx hb hK hP j379 5 hj379 rfl (xin_of hnn370 (by have kc := c373; simp only [xk_lt, xk_le, xk_0, xk_1, xk_2, xk_3, xk_4, xk_5, xk_6, xk_7, xk_8, xk_50] at kc; omega)) dX2_dropLate_23 ?_
          cases hq381 : Qa370 t378 y371.toNatClampNeg with
          | none =>
            refine W.eq (g2 := F0 m 24 ls [.null]) rfl ?_
            refine lv_astoreN (lv' := [(4, .null), (3, .int y371), (2, .int y372), (0, .ref a), (1, .int nw)]) hx hb dX2_dropLate_24 hl (by decide) rfl (fun ls hl => ?_)
            refine lv_aloadN hx hb dX2_dropLate_26 (lv_at hl 0 rfl) ?_
            refine lv_ifnullN (tgt := 79) hx hb dX2_dropLate_28 (by decide) ?_
            obtain ⟨v382, ev382⟩ : ∃ y : Int32, y = y371 + Int32.ofInt 1 := ⟨_, rfl⟩
            refine lv_iinc (v := v382) (lv' := [(3, .int v382), (4, .null), (2, .int y372), (0, .ref a), (1, .int nw)]) hx hb dX2_dropLate_79 hl (k := 1) rfl ev382.symm (by decide) rfl (fun ls hl => ?_)
            refine lv_goto (tgt := 13) hx hb dX2_dropLate_82 (by decide) ?_
            exact ih _ _ _ _ _ _ _ _ (by have kc := c373; simp only [xk_le, xk_lt] at kc; have h9 := xinc (x := y371) (y := (5 : Int32)) (by rw [xk_lt]; omega); rw [ev382, show y371 + Int32.ofInt 1 = y371 + 1 from rfl, h9]; omega) (by have kc := c373; simp only [xk_le, xk_lt] at kc; have h9 := xinc (x := y371) (y := (5 : Int32)) (by rw [xk_lt]; omega); rw [ev382, show y371 + Int32.ofInt 1 = y371 + 1 from rfl, h9]; omega) hC hR hP hD hS (lv_sub hl [0, 2, 3, 4] rfl)
          | some b380 =>
            have hTb380 := (hC.2.2.2.2.2.1 t378 hLt378 hkt378 y371.toNatClampNeg b380 (vp_lt (xin_of hnn370 (by have kc := c373; simp only [xk_lt, xk_le, xk_0, xk_1, xk_2, xk_3, xk_4, xk_5, xk_6, xk_7, xk_8, xk_50] at kc; omega))) hq381)
            refine W.eq (g2 := F0 m 24 ls [.ref b380]) rfl ?_
            refine lv_astore (lv' := [(4, .ref b380), (3, .int y371), (2, .int y372), (0, .ref a), (1, .int nw)]) hx hb dX2_dropLate_24 hl (by decide) rfl (fun ls hl => ?_)
            refine lv_aload hx hb dX2_dropLate_26 (lv_at hl 0 rfl) ?_
            refine lv_ifnull hx hb dX2_dropLate_28 ?_
            refine lv_iload_n hx hb dX2_dropLate_31 rfl (lv_at hl 1 rfl) ?_
            refine lv_aload_n hx hb dX2_dropLate_32 rfl (lv_at hl 3 rfl) ?_
            obtain ⟨j383, hj383⟩ := pG_2 (cy := cy) (N := N) (T := T) (I := Ia370) (Q := Qa370) (J := Ja370) ha hk
            refine va_get (D := (dC, dI)) (ci := 2) (v := .int (Ia370 a 3)) (C := RX2) (T := TX2) (N := 6) hx hb hts hi2 hown hK hP j383 hj383 rfl 3 (by decide) (hts (.fieldLink RX2 34 "TallyLogs$Partition" "leader" "I") (by decide +kernel)) (fun _ h9 => h9) rfl dX2_dropLate_33 ?_
            refine lv_topi (fun x384 ex384 => ?_)
            refine lv_icmp_eq (tgt := 79) hx hb dX2_dropLate_36 (by decide) (fun c385 => ?_) (fun c385 => ?_)
            · obtain ⟨v386, ev386⟩ : ∃ y : Int32, y = y371 + Int32.ofInt 1 := ⟨_, rfl⟩
              refine lv_iinc (v := v386) (lv' := [(3, .int v386), (4, .ref b380), (2, .int y372), (0, .ref a), (1, .int nw)]) hx hb dX2_dropLate_79 hl (k := 1) rfl ev386.symm (by decide) rfl (fun ls hl => ?_)
              refine lv_goto (tgt := 13) hx hb dX2_dropLate_82 (by decide) ?_
              exact ih _ _ _ _ _ _ _ _ (by have kc := c373; simp only [xk_le, xk_lt] at kc; have h9 := xinc (x := y371) (y := (5 : Int32)) (by rw [xk_lt]; omega); rw [ev386, show y371 + Int32.ofInt 1 = y371 + 1 from rfl, h9]; omega) (by have kc := c373; simp only [xk_le, xk_lt] at kc; have h9 := xinc (x := y371) (y := (5 : Int32)) (by rw [xk_lt]; omega); rw [ev386, show y371 + Int32.ofInt 1 = y371 + 1 from rfl, h9]; omega) hC hR hP hD hS (lv_sub hl [0, 2, 3, 4] rfl)
            · refine lv_aload_n hx hb dX2_dropLate_39 rfl (lv_at hl 3 rfl) ?_
              obtain ⟨j387, hj387⟩ := pG_2 (cy := cy) (N := N) (T := T) (I := Ia370) (Q := Qa370) (J := Ja370) ha hk
              refine va_get (D := (dC, dI)) (ci := 2) (v := .int (Ia370 a 5)) (C := RX2) (T := TX2) (N := 6) hx hb hts hi2 hown hK hP j387 hj387 rfl 5 (by decide) (hts (.fieldLink RX2 27 "TallyLogs$Partition" "inStep" "I") (by decide +kernel)) (fun _ h9 => h9) rfl dX2_dropLate_40 ?_
              refine lv_topi (fun x388 ex388 => ?_)
              refine lv_iload_n hx hb dX2_dropLate_43 rfl (lv_at hl 1 rfl) ?_
              refine vp_callSi (va_Run.run (va_runSN (As := [.int x388, .int y371]) (rest := []) ⟨hx, hb, hml, hown, hts⟩ (c_X5_contains l x388 y371) ⟨va_cnB 2 hts gX2_dropLate_X5_contains_n37 rfl rfl rfl hn37 (hts (.initialized RX5) (by decide +kernel)) (by decide +kernel) ⟨Nat.le_of_ble_eq_true rfl, Nat.le_of_ble_eq_true rfl⟩, hts (.static yX5_contains) (by decide +kernel), trivial⟩ preEq rfl rfl hl.1 rfl (lv_room (Nat.le_of_ble_eq_true rfl)) dX2_dropLate_44 ⟨Nat.le_of_ble_eq_true rfl, Nat.le_of_ble_eq_true rfl⟩)) (fun r389 hr389 => ?_)
              refine lv_if_eq (tgt := 79) hx hb dX2_dropLate_47 (by decide) (fun c390 => ?_) (fun c390 => ?_)
              · obtain ⟨v391, ev391⟩ : ∃ y : Int32, y = y371 + Int32.ofInt 1 := ⟨_, rfl⟩
                refine lv_iinc (v := v391) (lv' := [(3, .int v391), (4, .ref b380), (2, .int y372), (0, .ref a), (1, .int nw)]) hx hb dX2_dropLate_79 hl (k := 1) rfl ev391.symm (by decide) rfl (fun ls hl => ?_)
                refine lv_goto (tgt := 13) hx hb dX2_dropLate_82 (by decide) ?_
                exact ih _ _ _ _ _ _ _ _ (by have kc := c373; simp only [xk_le, xk_lt] at kc; have h9 := xinc (x := y371) (y := (5 : Int32)) (by rw [xk_lt]; omega); rw [ev391, show y371 + Int32.ofInt 1 = y371 + 1 from rfl, h9]; omega) (by have kc := c373; simp only [xk_le, xk_lt] at kc; have h9 := xinc (x := y371) (y := (5 : Int32)) (by rw [xk_lt]; omega); rw [ev391, show y371 + Int32.ofInt 1 = y371 + 1 from rfl, h9]; omega) hC hR hP hD hS (lv_sub hl [0, 2, 3, 4] rfl)
              · refine lv_iload_n hx hb dX2_dropLate_50 rfl (lv_at hl 4 rfl) ?_
                refine lv_aload hx hb dX2_dropLate_51 (lv_at hl 0 rfl) ?_
                obtain ⟨j392, hj392⟩ := pG_4 (cy := cy) (N := N) (T := T) (I := Ia370) (Q := Qa370) (J := Ja370) hTb380.1 hTb380.2
                refine va_get (D := (dC, dI)) (ci := 4) (v := .int (Ia370 b380 6)) (C := RX4) (T := TX4) (N := 7) hx hb hts hi4 hown hK hP j392 hj392 rfl 6 (by decide) (hts (.fieldLink RX2 72 "TallyLogs$Replica" "caught" "I") (by decide +kernel)) (fun _ h9 => h9) rfl dX2_dropLate_53 ?_
                refine lv_topi (fun x393 ex393 => ?_)
                refine lv_isub hx hb dX2_dropLate_56 ?_
                refine lv_topi (fun v394 ev394 => ?_)
                refine lv_bipush (v := 10) hx hb dX2_dropLate_57 (by decide) ?_
                refine lv_icmp_le (tgt := 79) hx hb dX2_dropLate_59 (by decide) (fun c395 => ?_) (fun c395 => ?_)
                · obtain ⟨v396, ev396⟩ : ∃ y : Int32, y = y371 + Int32.ofInt 1 := ⟨_, rfl⟩
                  refine lv_iinc (v := v396) (lv' := [(3, .int v396), (4, .ref b380), (2, .int y372), (0, .ref a), (1, .int nw)]) hx hb dX2_dropLate_79 hl (k := 1) rfl ev396.symm (by decide) rfl (fun ls hl => ?_)
                  refine lv_goto (tgt := 13) hx hb dX2_dropLate_82 (by decide) ?_
                  exact ih _ _ _ _ _ _ _ _ (by have kc := c373; simp only [xk_le, xk_lt] at kc; have h9 := xinc (x := y371) (y := (5 : Int32)) (by rw [xk_lt]; omega); rw [ev396, show y371 + Int32.ofInt 1 = y371 + 1 from rfl, h9]; omega) (by have kc := c373; simp only [xk_le, xk_lt] at kc; have h9 := xinc (x := y371) (y := (5 : Int32)) (by rw [xk_lt]; omega); rw [ev396, show y371 + Int32.ofInt 1 = y371 + 1 from rfl, h9]; omega) hC hR hP hD hS (lv_sub hl [0, 2, 3, 4] rfl)
                · refine lv_aload_n hx hb dX2_dropLate_62 rfl (lv_at hl 3 rfl) ?_
                  refine lv_dup hx hb dX2_dropLate_63 rfl ?_
                  obtain ⟨j397, hj397⟩ := pG_2 (cy := cy) (N := N) (T := T) (I := Ia370) (Q := Qa370) (J := Ja370) ha hk
                  refine va_get (D := (dC, dI)) (ci := 2) (v := .int (Ia370 a 5)) (C := RX2) (T := TX2) (N := 6) hx hb hts hi2 hown hK hP j397 hj397 rfl 5 (by decide) (hts (.fieldLink RX2 27 "TallyLogs$Partition" "inStep" "I") (by decide +kernel)) (fun _ h9 => h9) rfl dX2_dropLate_64 ?_
                  refine lv_topi (fun x398 ex398 => ?_)
                  refine lv_iconst (v := 1) hx hb dX2_dropLate_67 (by decide) ?_
                  refine lv_iload_n hx hb dX2_dropLate_68 rfl (lv_at hl 1 rfl) ?_
                  refine lv_ishl hx hb dX2_dropLate_69 ?_
                  refine lv_topi (fun v399 ev399 => ?_)
                  refine lv_iconst (v := (-1)) hx hb dX2_dropLate_70 (by decide) ?_
                  refine lv_ixor hx hb dX2_dropLate_71 ?_
                  refine lv_topi (fun v400 ev400 => ?_)
                  refine lv_iand hx hb dX2_dropLate_72 ?_
                  refine lv_topi (fun v401 ev401 => ?_)
                  obtain ⟨j402, hj402⟩ := pG_2 (cy := cy) (N := N) (T := T) (I := Ia370) (Q := Qa370) (J := Ja370) ha hk
                  have hDo := hD
                  refine va_put (D := (dC, dI)) (ci := 2) (v := .int v401) (ty := .int) (C := RX2) (T := TX2) (N := 6) hx hb hts hi2 tyX2 tyX2_ok nmX2 hown hK hP hD hS j402 hj402 rfl 5 (by decide) (hts (.fieldLink RX2 27 "TallyLogs$Partition" "inStep" "I") (by decide +kernel)) (fun _ h9 => h9) rfl (by decide +kernel) rfl rfl (Nat.le_of_ble_eq_true rfl) dX2_dropLate_73 (fun H locs hP hD hS => ?_)
                  have hP := Eq.mp (congrArg (fun w => va_P (dC, dI) vwCl w H) (pP_2_5 (x := v401) hDo ha hk hj402)) hP
                  obtain ⟨I403, eI403⟩ : ∃ z, z = p2 Ia370 a 5 v401 := ⟨_, rfl⟩
                  rw [← eI403] at hP
                  have hR : RS v I Q J I403 Qa370 Ja370 := by rw [eI403]; exact hR.pi hC (by rw [hk]; decide)
                  have hC : CT v L K N T I403 Qa370 := by rw [eI403]; exact hC.pi (by rw [hk]; decide)
                  have hD : va_D A (va_pl L (pF cy K N T I403 Qa370 Ja370)) := pD hDo
                  obtain ⟨v404, ev404⟩ : ∃ y : Int32, y = y372 + Int32.ofInt 1 := ⟨_, rfl⟩
                  refine lv_iinc (v := v404) (lv' := [(2, .int v404), (4, .ref b380), (3, .int y371), (0, .ref a), (1, .int nw)]) hx hb dX2_dropLate_76 hl (k := 2) rfl ev404.symm (by decide) rfl (fun ls hl => ?_)
                  obtain ⟨v405, ev405⟩ : ∃ y : Int32, y = y371 + Int32.ofInt 1 := ⟨_, rfl⟩
                  refine lv_iinc (v := v405) (lv' := [(3, .int v405), (2, .int v404), (4, .ref b380), (0, .ref a), (1, .int nw)]) hx hb dX2_dropLate_79 hl (k := 2) rfl ev405.symm (by decide) rfl (fun ls hl => ?_)
                  refine lv_goto (tgt := 13) hx hb dX2_dropLate_82 (by decide) ?_
                  exact ih _ _ _ _ _ _ _ _ (by have kc := c373; simp only [xk_le, xk_lt] at kc; have h9 := xinc (x := y371) (y := (5 : Int32)) (by rw [xk_lt]; omega); rw [ev405, show y371 + Int32.ofInt 1 = y371 + 1 from rfl, h9]; omega) (by have kc := c373; simp only [xk_le, xk_lt] at kc; have h9 := xinc (x := y371) (y := (5 : Int32)) (by rw [xk_lt]; omega); rw [ev405, show y371 + Int32.ofInt 1 = y371 + 1 from rfl, h9]; omega) hC hR hP hD hS (lv_sub hl [0, 1, 3, 4] rfl)
    exact hLP370 _ _ _ _ _ _ _ _ _ (Nat.lt_succ_self _) (by decide) hC hR hP hD hS (lv_sub hl [0, 1, 2, 3] rfl)
set_option maxHeartbeats 4000000 in
set_option maxRecDepth 100000 in
/-- Partition.lose -/
theorem c_X2_lose (l : Launch) (dC : Nat → ClassId) (dI : Nat → Nat → Nat) (cy : Nat → ClassId) (v : Nat → Nat) (L : List Nat) (K N : Nat → Nat) (T : Nat → Nat → Nat) (I : Nat → Nat → Int32) (Q : Nat → Nat → Option Nat) (J : Nat → Nat → Int32) (sz : Nat) (a : Nat) (xn : Int32) (xk : Int32) (hC : CT v L K N T I Q) (ha : a ∈ L) (hk : K a = 2) : Met l yX2_lose wsX2_lose ({ frames := 3, cells := 0, slots := 0, locals := 66 }) (va_Pc [.ref a, .int xn, .int xk] (pW dC dI cy L (pF cy K N T I Q J) sz)) (va_Qv (fun d : (Nat → Nat → Int32) × (Nat → Nat → Option Nat) × (Nat → Nat → Int32) => CT v L K N T d.1 d.2.1 ∧ RS v I Q J d.1 d.2.1 d.2.2) (fun (d : (Nat → Nat → Int32) × (Nat → Nat → Option Nat) × (Nat → Nat → Int32)) t => va_P (dC, dI) vwCl (va_pl L (pF cy K N T d.1 d.2.1 d.2.2)) t.heap ∧ va_K (dC, dI) vwCl (pTy cy) t ∧ va_D (va_A (va_pl L (pF cy K N T I Q J)) sz) (va_pl L (pF cy K N T d.1 d.2.1 d.2.2))) (va_A (va_pl L (pF cy K N T I Q J)) sz)) 0 0 (va_A (va_pl L (pF cy K N T I Q J)) sz) := by
  refine Met.ofW (cc := cX2_lose) (maxL := 5) (ret := none) (by decide) rfl ?_
  intro p e s m args below meth c s₁ B hml hv
  obtain ⟨rfl, hsz, ⟨hP, hK, hN⟩, hD0⟩ := hv
  have hx := B.exec
  have hb := B.bytes
  have hr := B.returns
  have hts := atoms_spec (ws := wsX2_lose) B.pre
  have hown : s.vm.findClass RX2 = some m.cls := findClass_of_methodNamed B.named
  have hlocks := B.notSynchronized
  have hi2 : ∀ w ∈ wsX20, w ∈ wsX2_lose := by decide +kernel
  have hi4 : ∀ w ∈ wsX40, w ∈ wsX2_lose := by decide +kernel
  have hl := lv_entry ([.ref a, .int xn, .int xk]) (n := 5) (Nat.le_of_ble_eq_true rfl)
  rw [lg_entry_eq]
  generalize (lg_sl ([.ref a, .int xn, .int xk]) ++ List.replicate (5 - (lg_sl ([.ref a, .int xn, .int xk])).length) Slot.unset).toArray = ls at hl ⊢
  have hl : lv_has ls 5 [(0, .ref a), (1, .int xn), (2, .int xk)] := hl
  subst hsz
  have hD := hD0.self (sz := s.heap.size)
  generalize hAe : va_A (va_pl L (pF cy K N T I Q J)) s.heap.size = A at hD ⊢
  have hA : ∀ q : Nat, s.heap.size ≤ q → A q := fun q h => by rw [← hAe]; exact Or.inr h
  have hS : va_S A s.heap s.heap [] := va_S.rf
  have hR : RS v I Q J I Q J := RS.rf
  have hn28 := hN.1
  have hn30 := hN.2.1
  have hn37 := hN.2.2.1
  refine lv_aload_n hx hb dX2_lose_0 rfl (lv_at hl 0 rfl) ?_
  refine lv_iload_n hx hb dX2_lose_1 rfl (lv_at hl 1 rfl) ?_
  obtain ⟨j407, hj407⟩ := pG_2 (cy := cy) (N := N) (T := T) (I := I) (Q := Q) (J := J) ha hk
  refine va_csq (W.runV (As := [.int xn]) (rest := []) ⟨hx, hb, hml, hown, hts⟩ (c_X2_replicaAt l dC dI cy v L K N T I Q J a xn hC ha hk) (cwV 1 hts gX2_lose_X2_replicaAt rfl rfl rfl (by decide +kernel) ⟨Nat.le_of_ble_eq_true rfl, Nat.le_of_ble_eq_true rfl⟩) ⟨pb_blind, va_recv hK hP (ci := 2) (q0 := j407) rfl hj407, fun U hU hW => ⟨rfl, pb_pre hP hK hN hU hW⟩⟩ rfl rfl hl.1 rfl (lv_room (Nat.le_of_ble_eq_true rfl)) dX2_lose_2 ⟨Nat.le_of_ble_eq_true rfl, Nat.le_of_ble_eq_true rfl⟩) (fun r406 hr406 => ?_)
  cases r406 with
  | none =>
    refine W.eq (g2 := F0 m 5 ls [.null]) rfl ?_
    refine lv_astore_nN (lv' := [(3, .null), (0, .ref a), (1, .int xn), (2, .int xk)]) hx hb dX2_lose_5 rfl hl (by decide) rfl (fun ls hl => ?_)
    refine lv_aload_nN hx hb dX2_lose_6 rfl (lv_at hl 0 rfl) ?_
    refine lv_ifnonnullN hx hb dX2_lose_7 ?_
    exact W.vret hx hb hr (fun t ht hW => ⟨⟨(I, Q, J), rfl, ⟨hC, hR⟩, by rw [ht]; exact hP, va_K.moved hW.alike hK, hD⟩, hS.F ht⟩) hS.2.2 dX2_lose_10
  | some b408 =>
    have hTb408 := hr406 b408 rfl
    refine W.eq (g2 := F0 m 5 ls [.ref b408]) rfl ?_
    refine lv_astore_n (lv' := [(3, .ref b408), (0, .ref a), (1, .int xn), (2, .int xk)]) hx hb dX2_lose_5 rfl hl (by decide) rfl (fun ls hl => ?_)
    refine lv_aload_n hx hb dX2_lose_6 rfl (lv_at hl 0 rfl) ?_
    refine lv_ifnonnull (tgt := 11) hx hb dX2_lose_7 (by decide) ?_
    refine lv_aload_n hx hb dX2_lose_11 rfl (lv_at hl 0 rfl) ?_
    refine lv_iload_n hx hb dX2_lose_12 rfl (lv_at hl 3 rfl) ?_
    obtain ⟨j409, hj409⟩ := pG_4 (cy := cy) (N := N) (T := T) (I := I) (Q := Q) (J := J) hTb408.1 hTb408.2
    have hFc := pfree hD hS hA
    refine va_callv (va_runV (As := [.int xk]) (rest := []) ⟨hx, hb, hml, hown, hts⟩ (c_X4_loseUnflushed l dC dI cy v L K N T I Q J s.heap.size b408 xk hC hTb408.1 hTb408.2) (cwV 1 hts gX2_lose_X4_loseUnflushed rfl rfl rfl (by decide +kernel) ⟨Nat.le_of_ble_eq_true rfl, Nat.le_of_ble_eq_true rfl⟩) ⟨pw_blind, va_recv hK hP (ci := 4) (q0 := j409) rfl hj409, fun U hU hW => ⟨rfl, pw_pre hP hK hN hD hU hW⟩⟩ rfl rfl hl.1 rfl (lv_room (Nat.le_of_ble_eq_true rfl)) dX2_lose_13 ⟨Nat.le_of_ble_eq_true rfl, Nat.le_of_ble_eq_true rfl⟩) hS (fun q _ h => hFc q h) hFc (fun d9 t H1 locs ht hvm hw hB hz1 hk1 hS => ?_)
    obtain ⟨I410, Q410, J410⟩ := d9
    obtain ⟨hC, hR1⟩ := hw
    obtain ⟨hP, hK1, hD1⟩ := hB
    rw [ht] at hP
    have hD := hD1.weaken (fun _ _ _ h => hFc _ h)
    have hR := hR.trans hR1
    generalize H1 = H at hP hS ⊢
    have hP : va_P (dC, dI) vwCl (va_pl L (pF cy K N T I410 Q410 J410)) H := hP
    have hD : va_D A (va_pl L (pF cy K N T I410 Q410 J410)) := hD
    have hC : CT v L K N T I410 Q410 := hC
    have hR : RS v I Q J I410 Q410 J410 := hR
    refine lv_aload_n hx hb dX2_lose_16 rfl (lv_at hl 1 rfl) ?_
    obtain ⟨j412, hj412⟩ := pG_2 (cy := cy) (N := N) (T := T) (I := I410) (Q := Q410) (J := J410) ha hk
    refine va_get (D := (dC, dI)) (ci := 2) (v := .int (I410 a 3)) (C := RX2) (T := TX2) (N := 6) hx hb hts hi2 hown hK hP j412 hj412 rfl 3 (by decide) (hts (.fieldLink RX2 34 "TallyLogs$Partition" "leader" "I") (by decide +kernel)) (fun _ h9 => h9) rfl dX2_lose_17 ?_
    refine lv_topi (fun x413 ex413 => ?_)
    refine lv_iload_n hx hb dX2_lose_20 rfl (lv_at hl 2 rfl) ?_
    refine lv_icmp_ne (tgt := 29) hx hb dX2_lose_21 (by decide) (fun c414 => ?_) (fun c414 => ?_)
    · refine lv_aload_n hx hb dX2_lose_29 rfl (lv_at hl 1 rfl) ?_
      obtain ⟨j415, hj415⟩ := pG_2 (cy := cy) (N := N) (T := T) (I := I410) (Q := Q410) (J := J410) ha hk
      refine va_get (D := (dC, dI)) (ci := 2) (v := .int (I410 a 5)) (C := RX2) (T := TX2) (N := 6) hx hb hts hi2 hown hK hP j415 hj415 rfl 5 (by decide) (hts (.fieldLink RX2 27 "TallyLogs$Partition" "inStep" "I") (by decide +kernel)) (fun _ h9 => h9) rfl dX2_lose_30 ?_
      refine lv_topi (fun x416 ex416 => ?_)
      refine lv_iconst (v := 1) hx hb dX2_lose_33 (by decide) ?_
      refine lv_iload_n hx hb dX2_lose_34 rfl (lv_at hl 2 rfl) ?_
      refine lv_ishl hx hb dX2_lose_35 ?_
      refine lv_topi (fun v417 ev417 => ?_)
      refine lv_iconst (v := (-1)) hx hb dX2_lose_36 (by decide) ?_
      refine lv_ixor hx hb dX2_lose_37 ?_
      refine lv_topi (fun v418 ev418 => ?_)
      refine lv_iand hx hb dX2_lose_38 ?_
      refine lv_topi (fun v419 ev419 => ?_)
      refine lv_istore (lv' := [(4, .int v419), (3, .ref b408), (0, .ref a), (1, .int xn), (2, .int xk)]) hx hb dX2_lose_39 hl (by decide) rfl (fun ls hl => ?_)
      refine lv_iload hx hb dX2_lose_41 (lv_at hl 0 rfl) ?_
      refine lv_if_eq (tgt := 52) hx hb dX2_lose_43 (by decide) (fun c420 => ?_) (fun c420 => ?_)
      · refine lv_aload_n hx hb dX2_lose_52 rfl (lv_at hl 2 rfl) ?_
        obtain ⟨j421, hj421⟩ := pG_2 (cy := cy) (N := N) (T := T) (I := I410) (Q := Q410) (J := J410) ha hk
        have hFc := pfree hD hS hA
        refine va_callv (va_runV (As := []) (rest := []) ⟨hx, hb, hml, hown, hts⟩ (c_X2_raiseHw l dC dI cy v L K N T I410 Q410 J410 H.size a  hC ha hk) (cwV 0 hts gX2_lose_X2_raiseHw rfl rfl rfl (by decide +kernel) ⟨Nat.le_of_ble_eq_true rfl, Nat.le_of_ble_eq_true rfl⟩) ⟨pw_blind, va_recv hK hP (ci := 2) (q0 := j421) rfl hj421, fun U hU hW => ⟨rfl, pw_pre hP hK hN hD hU hW⟩⟩ rfl rfl hl.1 rfl (lv_room (Nat.le_of_ble_eq_true rfl)) dX2_lose_53 ⟨Nat.le_of_ble_eq_true rfl, Nat.le_of_ble_eq_true rfl⟩) hS (fun q _ h => hFc q h) hFc (fun d9 t H1 locs ht hvm hw hB hz1 hk1 hS => ?_)
        obtain ⟨I422, Q422, J422⟩ := d9
        obtain ⟨hC, hR1⟩ := hw
        obtain ⟨hP, hK1, hD1⟩ := hB
        rw [ht] at hP
        have hD := hD1.weaken (fun _ _ _ h => hFc _ h)
        have hR := hR.trans hR1
        generalize H1 = H at hP hS ⊢
        have hP : va_P (dC, dI) vwCl (va_pl L (pF cy K N T I422 Q422 J422)) H := hP
        have hD : va_D A (va_pl L (pF cy K N T I422 Q422 J422)) := hD
        have hC : CT v L K N T I422 Q422 := hC
        have hR : RS v I Q J I422 Q422 J422 := hR
        exact W.vret hx hb hr (fun t ht hW => ⟨⟨(I422, Q422, J422), rfl, ⟨hC, hR⟩, by rw [ht]; exact hP, va_K.moved hW.alike hK, hD⟩, hS.F ht⟩) hS.2.2 dX2_lose_56
      · refine lv_aload_n hx hb dX2_lose_46 rfl (lv_at hl 2 rfl) ?_
        refine lv_iload hx hb dX2_lose_47 (lv_at hl 0 rfl) ?_
        obtain ⟨j424, hj424⟩ := pG_2 (cy := cy) (N := N) (T := T) (I := I410) (Q := Q410) (J := J410) ha hk
        have hDo := hD
        refine va_put (D := (dC, dI)) (ci := 2) (v := .int v419) (ty := .int) (C := RX2) (T := TX2) (N := 6) hx hb hts hi2 tyX2 tyX2_ok nmX2 hown hK hP hD hS j424 hj424 rfl 5 (by decide) (hts (.fieldLink RX2 27 "TallyLogs$Partition" "inStep" "I") (by decide +kernel)) (fun _ h9 => h9) rfl (by decide +kernel) rfl rfl (Nat.le_of_ble_eq_true rfl) dX2_lose_49 (fun H locs hP hD hS => ?_)
        have hP := Eq.mp (congrArg (fun w => va_P (dC, dI) vwCl w H) (pP_2_5 (x := v419) hDo ha hk hj424)) hP
        obtain ⟨I425, eI425⟩ : ∃ z, z = p2 I410 a 5 v419 := ⟨_, rfl⟩
        rw [← eI425] at hP
        have hR : RS v I Q J I425 Q410 J410 := by rw [eI425]; exact hR.pi hC (by rw [hk]; decide)
        have hC : CT v L K N T I425 Q410 := by rw [eI425]; exact hC.pi (by rw [hk]; decide)
        have hD : va_D A (va_pl L (pF cy K N T I425 Q410 J410)) := pD hDo
        refine lv_aload_n hx hb dX2_lose_52 rfl (lv_at hl 2 rfl) ?_
        obtain ⟨j426, hj426⟩ := pG_2 (cy := cy) (N := N) (T := T) (I := I425) (Q := Q410) (J := J410) ha hk
        have hFc := pfree hD hS hA
        refine va_callv (va_runV (As := []) (rest := []) ⟨hx, hb, hml, hown, hts⟩ (c_X2_raiseHw l dC dI cy v L K N T I425 Q410 J410 H.size a  hC ha hk) (cwV 0 hts gX2_lose_X2_raiseHw rfl rfl rfl (by decide +kernel) ⟨Nat.le_of_ble_eq_true rfl, Nat.le_of_ble_eq_true rfl⟩) ⟨pw_blind, va_recv hK hP (ci := 2) (q0 := j426) rfl hj426, fun U hU hW => ⟨rfl, pw_pre hP hK hN hD hU hW⟩⟩ rfl rfl hl.1 rfl (lv_room (Nat.le_of_ble_eq_true rfl)) dX2_lose_53 ⟨Nat.le_of_ble_eq_true rfl, Nat.le_of_ble_eq_true rfl⟩) hS (fun q _ h => hFc q h) hFc (fun d9 t H1 locs ht hvm hw hB hz1 hk1 hS => ?_)
        obtain ⟨I427, Q427, J427⟩ := d9
        obtain ⟨hC, hR1⟩ := hw
        obtain ⟨hP, hK1, hD1⟩ := hB
        rw [ht] at hP
        have hD := hD1.weaken (fun _ _ _ h => hFc _ h)
        have hR := hR.trans hR1
        generalize H1 = H at hP hS ⊢
        have hP : va_P (dC, dI) vwCl (va_pl L (pF cy K N T I427 Q427 J427)) H := hP
        have hD : va_D A (va_pl L (pF cy K N T I427 Q427 J427)) := hD
        have hC : CT v L K N T I427 Q427 := hC
        have hR : RS v I Q J I427 Q427 J427 := hR
        exact W.vret hx hb hr (fun t ht hW => ⟨⟨(I427, Q427, J427), rfl, ⟨hC, hR⟩, by rw [ht]; exact hP, va_K.moved hW.alike hK, hD⟩, hS.F ht⟩) hS.2.2 dX2_lose_56
    · refine lv_aload_n hx hb dX2_lose_24 rfl (lv_at hl 1 rfl) ?_
      refine lv_iconst (v := (-1)) hx hb dX2_lose_25 (by decide) ?_
      obtain ⟨j429, hj429⟩ := pG_2 (cy := cy) (N := N) (T := T) (I := I410) (Q := Q410) (J := J410) ha hk
      have hDo := hD
      refine va_put (D := (dC, dI)) (ci := 2) (v := .int (-1)) (ty := .int) (C := RX2) (T := TX2) (N := 6) hx hb hts hi2 tyX2 tyX2_ok nmX2 hown hK hP hD hS j429 hj429 rfl 3 (by decide) (hts (.fieldLink RX2 34 "TallyLogs$Partition" "leader" "I") (by decide +kernel)) (fun _ h9 => h9) rfl (by decide +kernel) rfl rfl (Nat.le_of_ble_eq_true rfl) dX2_lose_26 (fun H locs hP hD hS => ?_)
      have hP := Eq.mp (congrArg (fun w => va_P (dC, dI) vwCl w H) (pP_2_3 (x := (-1)) hDo ha hk hj429)) hP
      obtain ⟨I430, eI430⟩ : ∃ z, z = p2 I410 a 3 (-1) := ⟨_, rfl⟩
      rw [← eI430] at hP
      have hR : RS v I Q J I430 Q410 J410 := by rw [eI430]; exact hR.pi hC (by rw [hk]; decide)
      have hC : CT v L K N T I430 Q410 := by rw [eI430]; exact hC.pi (by rw [hk]; decide)
      have hD : va_D A (va_pl L (pF cy K N T I430 Q410 J410)) := pD hDo
      refine lv_aload_n hx hb dX2_lose_29 rfl (lv_at hl 1 rfl) ?_
      obtain ⟨j431, hj431⟩ := pG_2 (cy := cy) (N := N) (T := T) (I := I430) (Q := Q410) (J := J410) ha hk
      refine va_get (D := (dC, dI)) (ci := 2) (v := .int (I430 a 5)) (C := RX2) (T := TX2) (N := 6) hx hb hts hi2 hown hK hP j431 hj431 rfl 5 (by decide) (hts (.fieldLink RX2 27 "TallyLogs$Partition" "inStep" "I") (by decide +kernel)) (fun _ h9 => h9) rfl dX2_lose_30 ?_
      refine lv_topi (fun x432 ex432 => ?_)
      refine lv_iconst (v := 1) hx hb dX2_lose_33 (by decide) ?_
      refine lv_iload_n hx hb dX2_lose_34 rfl (lv_at hl 2 rfl) ?_
      refine lv_ishl hx hb dX2_lose_35 ?_
      refine lv_topi (fun v433 ev433 => ?_)
      refine lv_iconst (v := (-1)) hx hb dX2_lose_36 (by decide) ?_
      refine lv_ixor hx hb dX2_lose_37 ?_
      refine lv_topi (fun v434 ev434 => ?_)
      refine lv_iand hx hb dX2_lose_38 ?_
      refine lv_topi (fun v435 ev435 => ?_)
      refine lv_istore (lv' := [(4, .int v435), (3, .ref b408), (0, .ref a), (1, .int xn), (2, .int xk)]) hx hb dX2_lose_39 hl (by decide) rfl (fun ls hl => ?_)
      refine lv_iload hx hb dX2_lose_41 (lv_at hl 0 rfl) ?_
      refine lv_if_eq (tgt := 52) hx hb dX2_lose_43 (by decide) (fun c436 => ?_) (fun c436 => ?_)
      · refine lv_aload_n hx hb dX2_lose_52 rfl (lv_at hl 2 rfl) ?_
        obtain ⟨j437, hj437⟩ := pG_2 (cy := cy) (N := N) (T := T) (I := I430) (Q := Q410) (J := J410) ha hk
        have hFc := pfree hD hS hA
        refine va_callv (va_runV (As := []) (rest := []) ⟨hx, hb, hml, hown, hts⟩ (c_X2_raiseHw l dC dI cy v L K N T I430 Q410 J410 H.size a  hC ha hk) (cwV 0 hts gX2_lose_X2_raiseHw rfl rfl rfl (by decide +kernel) ⟨Nat.le_of_ble_eq_true rfl, Nat.le_of_ble_eq_true rfl⟩) ⟨pw_blind, va_recv hK hP (ci := 2) (q0 := j437) rfl hj437, fun U hU hW => ⟨rfl, pw_pre hP hK hN hD hU hW⟩⟩ rfl rfl hl.1 rfl (lv_room (Nat.le_of_ble_eq_true rfl)) dX2_lose_53 ⟨Nat.le_of_ble_eq_true rfl, Nat.le_of_ble_eq_true rfl⟩) hS (fun q _ h => hFc q h) hFc (fun d9 t H1 locs ht hvm hw hB hz1 hk1 hS => ?_)
        obtain ⟨I438, Q438, J438⟩ := d9
        obtain ⟨hC, hR1⟩ := hw
        obtain ⟨hP, hK1, hD1⟩ := hB
        rw [ht] at hP
        have hD := hD1.weaken (fun _ _ _ h => hFc _ h)
        have hR := hR.trans hR1
        generalize H1 = H at hP hS ⊢
        have hP : va_P (dC, dI) vwCl (va_pl L (pF cy K N T I438 Q438 J438)) H := hP
        have hD : va_D A (va_pl L (pF cy K N T I438 Q438 J438)) := hD
        have hC : CT v L K N T I438 Q438 := hC
        have hR : RS v I Q J I438 Q438 J438 := hR
        exact W.vret hx hb hr (fun t ht hW => ⟨⟨(I438, Q438, J438), rfl, ⟨hC, hR⟩, by rw [ht]; exact hP, va_K.moved hW.alike hK, hD⟩, hS.F ht⟩) hS.2.2 dX2_lose_56
      · refine lv_aload_n hx hb dX2_lose_46 rfl (lv_at hl 2 rfl) ?_
        refine lv_iload hx hb dX2_lose_47 (lv_at hl 0 rfl) ?_
        obtain ⟨j440, hj440⟩ := pG_2 (cy := cy) (N := N) (T := T) (I := I430) (Q := Q410) (J := J410) ha hk
        have hDo := hD
        refine va_put (D := (dC, dI)) (ci := 2) (v := .int v435) (ty := .int) (C := RX2) (T := TX2) (N := 6) hx hb hts hi2 tyX2 tyX2_ok nmX2 hown hK hP hD hS j440 hj440 rfl 5 (by decide) (hts (.fieldLink RX2 27 "TallyLogs$Partition" "inStep" "I") (by decide +kernel)) (fun _ h9 => h9) rfl (by decide +kernel) rfl rfl (Nat.le_of_ble_eq_true rfl) dX2_lose_49 (fun H locs hP hD hS => ?_)
        have hP := Eq.mp (congrArg (fun w => va_P (dC, dI) vwCl w H) (pP_2_5 (x := v435) hDo ha hk hj440)) hP
        obtain ⟨I441, eI441⟩ : ∃ z, z = p2 I430 a 5 v435 := ⟨_, rfl⟩
        rw [← eI441] at hP
        have hR : RS v I Q J I441 Q410 J410 := by rw [eI441]; exact hR.pi hC (by rw [hk]; decide)
        have hC : CT v L K N T I441 Q410 := by rw [eI441]; exact hC.pi (by rw [hk]; decide)
        have hD : va_D A (va_pl L (pF cy K N T I441 Q410 J410)) := pD hDo
        refine lv_aload_n hx hb dX2_lose_52 rfl (lv_at hl 2 rfl) ?_
        obtain ⟨j442, hj442⟩ := pG_2 (cy := cy) (N := N) (T := T) (I := I441) (Q := Q410) (J := J410) ha hk
        have hFc := pfree hD hS hA
        refine va_callv (va_runV (As := []) (rest := []) ⟨hx, hb, hml, hown, hts⟩ (c_X2_raiseHw l dC dI cy v L K N T I441 Q410 J410 H.size a  hC ha hk) (cwV 0 hts gX2_lose_X2_raiseHw rfl rfl rfl (by decide +kernel) ⟨Nat.le_of_ble_eq_true rfl, Nat.le_of_ble_eq_true rfl⟩) ⟨pw_blind, va_recv hK hP (ci := 2) (q0 := j442) rfl hj442, fun U hU hW => ⟨rfl, pw_pre hP hK hN hD hU hW⟩⟩ rfl rfl hl.1 rfl (lv_room (Nat.le_of_ble_eq_true rfl)) dX2_lose_53 ⟨Nat.le_of_ble_eq_true rfl, Nat.le_of_ble_eq_true rfl⟩) hS (fun q _ h => hFc q h) hFc (fun d9 t H1 locs ht hvm hw hB hz1 hk1 hS => ?_)
        obtain ⟨I443, Q443, J443⟩ := d9
        obtain ⟨hC, hR1⟩ := hw
        obtain ⟨hP, hK1, hD1⟩ := hB
        rw [ht] at hP
        have hD := hD1.weaken (fun _ _ _ h => hFc _ h)
        have hR := hR.trans hR1
        generalize H1 = H at hP hS ⊢
        have hP : va_P (dC, dI) vwCl (va_pl L (pF cy K N T I443 Q443 J443)) H := hP
        have hD : va_D A (va_pl L (pF cy K N T I443 Q443 J443)) := hD
        have hC : CT v L K N T I443 Q443 := hC
        have hR : RS v I Q J I443 Q443 J443 := hR
        exact W.vret hx hb hr (fun t ht hW => ⟨⟨(I443, Q443, J443), rfl, ⟨hC, hR⟩, by rw [ht]; exact hP, va_K.moved hW.alike hK, hD⟩, hS.F ht⟩) hS.2.2 dX2_lose_56
end
section
set_option maxHeartbeats 4000000 in
set_option maxRecDepth 100000 in
/-- Producer.open -/
theorem c_X3_open (l : Launch) (dC : Nat → ClassId) (dI : Nat → Nat → Nat) (cy : Nat → ClassId) (v : Nat → Nat) (L : List Nat) (K N : Nat → Nat) (T : Nat → Nat → Nat) (I : Nat → Nat → Int32) (Q : Nat → Nat → Option Nat) (J : Nat → Nat → Int32) (sz : Nat) (a : Nat)  (hC : CT v L K N T I Q) (ha : a ∈ L) (hk : K a = 3) : Met l yX3_open wsX3_open ({ frames := 0, cells := 0, slots := 0, locals := 0 }) (va_Pc [.ref a] (pW dC dI cy L (pF cy K N T I Q J) sz)) (va_Qv (fun d : (Nat → Nat → Int32) × (Nat → Nat → Option Nat) × (Nat → Nat → Int32) => CT v L K N T d.1 d.2.1 ∧ RS v I Q J d.1 d.2.1 d.2.2) (fun (d : (Nat → Nat → Int32) × (Nat → Nat → Option Nat) × (Nat → Nat → Int32)) t => va_P (dC, dI) vwCl (va_pl L (pF cy K N T d.1 d.2.1 d.2.2)) t.heap ∧ va_K (dC, dI) vwCl (pTy cy) t ∧ va_D (va_A (va_pl L (pF cy K N T I Q J)) sz) (va_pl L (pF cy K N T d.1 d.2.1 d.2.2))) (va_A (va_pl L (pF cy K N T I Q J)) sz)) 0 0 (va_A (va_pl L (pF cy K N T I Q J)) sz) := by
  refine Met.ofW (cc := cX3_open) (maxL := 1) (ret := none) (by decide) rfl ?_
  intro p e s m args below meth c s₁ B hml hv
  obtain ⟨rfl, hsz, ⟨hP, hK, hN⟩, hD0⟩ := hv
  have hx := B.exec
  have hb := B.bytes
  have hr := B.returns
  have hts := atoms_spec (ws := wsX3_open) B.pre
  have hown : s.vm.findClass RX3 = some m.cls := findClass_of_methodNamed B.named
  have hlocks := B.notSynchronized
  have hi3 : ∀ w ∈ wsX30, w ∈ wsX3_open := by decide +kernel
  have hl := lv_entry ([.ref a]) (n := 1) (Nat.le_of_ble_eq_true rfl)
  rw [lg_entry_eq]
  generalize (lg_sl ([.ref a]) ++ List.replicate (1 - (lg_sl ([.ref a])).length) Slot.unset).toArray = ls at hl ⊢
  have hl : lv_has ls 1 [(0, .ref a)] := hl
  subst hsz
  have hD := hD0.self (sz := s.heap.size)
  generalize hAe : va_A (va_pl L (pF cy K N T I Q J)) s.heap.size = A at hD ⊢
  have hA : ∀ q : Nat, s.heap.size ≤ q → A q := fun q h => by rw [← hAe]; exact Or.inr h
  have hS : va_S A s.heap s.heap [] := va_S.rf
  have hR : RS v I Q J I Q J := RS.rf
  have hn28 := hN.1
  have hn30 := hN.2.1
  have hn37 := hN.2.2.1
  refine lv_aload_n hx hb dX3_open_0 rfl (lv_at hl 0 rfl) ?_
  refine lv_iconst (v := 1) hx hb dX3_open_1 (by decide) ?_
  obtain ⟨j445, hj445⟩ := pG_3 (cy := cy) (N := N) (T := T) (I := I) (Q := Q) (J := J) ha hk
  have hDo := hD
  refine va_put (D := (dC, dI)) (ci := 3) (v := .int 1) (ty := .int) (C := RX3) (T := TX3) (N := 6) hx hb hts hi3 tyX3 tyX3_ok nmX3 hown hK hP hD hS j445 hj445 rfl 2 (by decide) (hts (.fieldLink RX3 15 "TallyLogs$Producer" "mode" "I") (by decide +kernel)) (fun _ h9 => h9) rfl (by decide +kernel) rfl rfl (Nat.le_of_ble_eq_true rfl) dX3_open_2 (fun H locs hP hD hS => ?_)
  have hP := Eq.mp (congrArg (fun w => va_P (dC, dI) vwCl w H) (pP_3_2 (x := 1) hDo ha hk hj445)) hP
  obtain ⟨I446, eI446⟩ : ∃ z, z = p2 I a 2 1 := ⟨_, rfl⟩
  rw [← eI446] at hP
  have hR : RS v I Q J I446 Q J := by rw [eI446]; exact hR.pi hC (by rw [hk]; decide)
  have hC : CT v L K N T I446 Q := by rw [eI446]; exact hC.pi (by rw [hk]; decide)
  have hD : va_D A (va_pl L (pF cy K N T I446 Q J)) := pD hDo
  refine lv_aload_n hx hb dX3_open_5 rfl (lv_at hl 0 rfl) ?_
  refine lv_aload_n hx hb dX3_open_6 rfl (lv_at hl 0 rfl) ?_
  obtain ⟨j447, hj447⟩ := pG_3 (cy := cy) (N := N) (T := T) (I := I446) (Q := Q) (J := J) ha hk
  refine va_get (D := (dC, dI)) (ci := 3) (v := .int (I446 a 1)) (C := RX3) (T := TX3) (N := 6) hx hb hts hi3 hown hK hP j447 hj447 rfl 1 (by decide) (hts (.fieldLink RX3 9 "TallyLogs$Producer" "generation" "I") (by decide +kernel)) (fun _ h9 => h9) rfl dX3_open_7 ?_
  refine lv_topi (fun x448 ex448 => ?_)
  obtain ⟨j449, hj449⟩ := pG_3 (cy := cy) (N := N) (T := T) (I := I446) (Q := Q) (J := J) ha hk
  have hDo := hD
  refine va_put (D := (dC, dI)) (ci := 3) (v := .int x448) (ty := .int) (C := RX3) (T := TX3) (N := 6) hx hb hts hi3 tyX3 tyX3_ok nmX3 hown hK hP hD hS j449 hj449 rfl 4 (by decide) (hts (.fieldLink RX3 22 "TallyLogs$Producer" "boundGeneration" "I") (by decide +kernel)) (fun _ h9 => h9) rfl (by decide +kernel) rfl rfl (Nat.le_of_ble_eq_true rfl) dX3_open_10 (fun H locs hP hD hS => ?_)
  have hP := Eq.mp (congrArg (fun w => va_P (dC, dI) vwCl w H) (pP_3_4 (x := x448) hDo ha hk hj449)) hP
  obtain ⟨I450, eI450⟩ : ∃ z, z = p2 I446 a 4 x448 := ⟨_, rfl⟩
  rw [← eI450] at hP
  have hR : RS v I Q J I450 Q J := by rw [eI450]; exact hR.pi hC (by rw [hk]; decide)
  have hC : CT v L K N T I450 Q := by rw [eI450]; exact hC.pi (by rw [hk]; decide)
  have hD : va_D A (va_pl L (pF cy K N T I450 Q J)) := pD hDo
  refine lv_aload_n hx hb dX3_open_13 rfl (lv_at hl 0 rfl) ?_
  refine lv_iconst (v := 0) hx hb dX3_open_14 (by decide) ?_
  obtain ⟨j451, hj451⟩ := pG_3 (cy := cy) (N := N) (T := T) (I := I450) (Q := Q) (J := J) ha hk
  have hDo := hD
  refine va_put (D := (dC, dI)) (ci := 3) (v := .int 0) (ty := .int) (C := RX3) (T := TX3) (N := 6) hx hb hts hi3 tyX3 tyX3_ok nmX3 hown hK hP hD hS j451 hj451 rfl 5 (by decide) (hts (.fieldLink RX3 25 "TallyLogs$Producer" "left" "I") (by decide +kernel)) (fun _ h9 => h9) rfl (by decide +kernel) rfl rfl (Nat.le_of_ble_eq_true rfl) dX3_open_15 (fun H locs hP hD hS => ?_)
  have hP := Eq.mp (congrArg (fun w => va_P (dC, dI) vwCl w H) (pP_3_5 (x := 0) hDo ha hk hj451)) hP
  obtain ⟨I452, eI452⟩ : ∃ z, z = p2 I450 a 5 0 := ⟨_, rfl⟩
  rw [← eI452] at hP
  have hR : RS v I Q J I452 Q J := by rw [eI452]; exact hR.pi hC (by rw [hk]; decide)
  have hC : CT v L K N T I452 Q := by rw [eI452]; exact hC.pi (by rw [hk]; decide)
  have hD : va_D A (va_pl L (pF cy K N T I452 Q J)) := pD hDo
  exact W.vret hx hb hr (fun t ht hW => ⟨⟨(I452, Q, J), rfl, ⟨hC, hR⟩, by rw [ht]; exact hP, va_K.moved hW.alike hK, hD⟩, hS.F ht⟩) hS.2.2 dX3_open_18
set_option maxHeartbeats 4000000 in
set_option maxRecDepth 100000 in
/-- Producer.startEnding -/
theorem c_X3_startEnding (l : Launch) (dC : Nat → ClassId) (dI : Nat → Nat → Nat) (cy : Nat → ClassId) (v : Nat → Nat) (L : List Nat) (K N : Nat → Nat) (T : Nat → Nat → Nat) (I : Nat → Nat → Int32) (Q : Nat → Nat → Option Nat) (J : Nat → Nat → Int32) (sz : Nat) (a : Nat) (cm : Int32) (hC : CT v L K N T I Q) (ha : a ∈ L) (hk : K a = 3) (hcm : narrow .boolean (.int cm) = .int cm) (hcf : fits .boolean (.int cm) = true) : Met l yX3_startEnding wsX3_startEnding ({ frames := 0, cells := 0, slots := 0, locals := 0 }) (va_Pc [.ref a, .int cm] (pW dC dI cy L (pF cy K N T I Q J) sz)) (va_Qv (fun d : (Nat → Nat → Int32) × (Nat → Nat → Option Nat) × (Nat → Nat → Int32) => CT v L K N T d.1 d.2.1 ∧ RS v I Q J d.1 d.2.1 d.2.2) (fun (d : (Nat → Nat → Int32) × (Nat → Nat → Option Nat) × (Nat → Nat → Int32)) t => va_P (dC, dI) vwCl (va_pl L (pF cy K N T d.1 d.2.1 d.2.2)) t.heap ∧ va_K (dC, dI) vwCl (pTy cy) t ∧ va_D (va_A (va_pl L (pF cy K N T I Q J)) sz) (va_pl L (pF cy K N T d.1 d.2.1 d.2.2))) (va_A (va_pl L (pF cy K N T I Q J)) sz)) 0 0 (va_A (va_pl L (pF cy K N T I Q J)) sz) := by
  refine Met.ofW (cc := cX3_startEnding) (maxL := 2) (ret := none) (by decide) rfl ?_
  intro p e s m args below meth c s₁ B hml hv
  obtain ⟨rfl, hsz, ⟨hP, hK, hN⟩, hD0⟩ := hv
  have hx := B.exec
  have hb := B.bytes
  have hr := B.returns
  have hts := atoms_spec (ws := wsX3_startEnding) B.pre
  have hown : s.vm.findClass RX3 = some m.cls := findClass_of_methodNamed B.named
  have hlocks := B.notSynchronized
  have hi3 : ∀ w ∈ wsX30, w ∈ wsX3_startEnding := by decide +kernel
  have hl := lv_entry ([.ref a, .int cm]) (n := 2) (Nat.le_of_ble_eq_true rfl)
  rw [lg_entry_eq]
  generalize (lg_sl ([.ref a, .int cm]) ++ List.replicate (2 - (lg_sl ([.ref a, .int cm])).length) Slot.unset).toArray = ls at hl ⊢
  have hl : lv_has ls 2 [(0, .ref a), (1, .int cm)] := hl
  subst hsz
  have hD := hD0.self (sz := s.heap.size)
  generalize hAe : va_A (va_pl L (pF cy K N T I Q J)) s.heap.size = A at hD ⊢
  have hA : ∀ q : Nat, s.heap.size ≤ q → A q := fun q h => by rw [← hAe]; exact Or.inr h
  have hS : va_S A s.heap s.heap [] := va_S.rf
  have hR : RS v I Q J I Q J := RS.rf
  have hn28 := hN.1
  have hn30 := hN.2.1
  have hn37 := hN.2.2.1
  refine lv_aload_n hx hb dX3_startEnding_0 rfl (lv_at hl 0 rfl) ?_
  refine lv_iconst (v := 2) hx hb dX3_startEnding_1 (by decide) ?_
  obtain ⟨j453, hj453⟩ := pG_3 (cy := cy) (N := N) (T := T) (I := I) (Q := Q) (J := J) ha hk
  have hDo := hD
  refine va_put (D := (dC, dI)) (ci := 3) (v := .int 2) (ty := .int) (C := RX3) (T := TX3) (N := 6) hx hb hts hi3 tyX3 tyX3_ok nmX3 hown hK hP hD hS j453 hj453 rfl 2 (by decide) (hts (.fieldLink RX3 15 "TallyLogs$Producer" "mode" "I") (by decide +kernel)) (fun _ h9 => h9) rfl (by decide +kernel) rfl rfl (Nat.le_of_ble_eq_true rfl) dX3_startEnding_2 (fun H locs hP hD hS => ?_)
  have hP := Eq.mp (congrArg (fun w => va_P (dC, dI) vwCl w H) (pP_3_2 (x := 2) hDo ha hk hj453)) hP
  obtain ⟨I454, eI454⟩ : ∃ z, z = p2 I a 2 2 := ⟨_, rfl⟩
  rw [← eI454] at hP
  have hR : RS v I Q J I454 Q J := by rw [eI454]; exact hR.pi hC (by rw [hk]; decide)
  have hC : CT v L K N T I454 Q := by rw [eI454]; exact hC.pi (by rw [hk]; decide)
  have hD : va_D A (va_pl L (pF cy K N T I454 Q J)) := pD hDo
  refine lv_aload_n hx hb dX3_startEnding_5 rfl (lv_at hl 0 rfl) ?_
  refine lv_iload_n hx hb dX3_startEnding_6 rfl (lv_at hl 1 rfl) ?_
  obtain ⟨j455, hj455⟩ := pG_3 (cy := cy) (N := N) (T := T) (I := I454) (Q := Q) (J := J) ha hk
  have hDo := hD
  refine va_put (D := (dC, dI)) (ci := 3) (v := .int cm) (ty := .boolean) (C := RX3) (T := TX3) (N := 6) hx hb hts hi3 tyX3 tyX3_ok nmX3 hown hK hP hD hS j455 hj455 rfl 3 (by decide) (hts (.fieldLink RX3 18 "TallyLogs$Producer" "commits" "Z") (by decide +kernel)) (fun _ h9 => h9) rfl (by decide +kernel) hcm hcf (Nat.le_of_ble_eq_true rfl) dX3_startEnding_7 (fun H locs hP hD hS => ?_)
  have hP := Eq.mp (congrArg (fun w => va_P (dC, dI) vwCl w H) (pP_3_3 (x := cm) hDo ha hk hj455)) hP
  obtain ⟨I456, eI456⟩ : ∃ z, z = p2 I454 a 3 cm := ⟨_, rfl⟩
  rw [← eI456] at hP
  have hR : RS v I Q J I456 Q J := by rw [eI456]; exact hR.pi hC (by rw [hk]; decide)
  have hC : CT v L K N T I456 Q := by rw [eI456]; exact hC.pi (by rw [hk]; decide)
  have hD : va_D A (va_pl L (pF cy K N T I456 Q J)) := pD hDo
  exact W.vret hx hb hr (fun t ht hW => ⟨⟨(I456, Q, J), rfl, ⟨hC, hR⟩, by rw [ht]; exact hP, va_K.moved hW.alike hK, hD⟩, hS.F ht⟩) hS.2.2 dX3_startEnding_10
end
section
set_option maxHeartbeats 4000000 in
set_option maxRecDepth 100000 in
/-- partitionAt: null, or a Partition -/
theorem c_X5_partitionAt (l : Launch) (dC : Nat → ClassId) (dI : Nat → Nat → Nat) (cy : Nat → ClassId) (v : Nat → Nat) (L : List Nat) (K N : Nat → Nat) (T : Nat → Nat → Nat) (I : Nat → Nat → Int32) (Q : Nat → Nat → Option Nat) (J : Nat → Nat → Int32) (xp : Int32) (hC : CT v L K N T I Q) : Met l yX5_partitionAt wsX5_partitionAt ({ frames := 0, cells := 0, slots := 0, locals := 0 }) (va_Pc [.ref (v 0), .int xp] (pB dC dI cy L (pF cy K N T I Q J))) (va_Sq (fun r => ∀ b, r = some b → b ∈ L ∧ K b = 2)) 0 0 (fun _ => False) := by
  refine Met.ofW (cc := cX5_partitionAt) (maxL := 2) (ret := (some (.object "TallyLogs$Partition"))) (by decide) rfl ?_
  intro p e s m args below meth c s₁ B hml hv
  obtain ⟨rfl, hP, hK, hN⟩ := hv
  have hx := B.exec
  have hb := B.bytes
  have hr := B.returns
  have hts := atoms_spec (ws := wsX5_partitionAt) B.pre
  have hown : s.vm.findClass RX5 = some m.cls := findClass_of_methodNamed B.named
  have hlocks := B.notSynchronized
  have hi5 : ∀ w ∈ wsX50, w ∈ wsX5_partitionAt := by decide +kernel
  have hl := lv_entry ([.ref (v 0), .int xp]) (n := 2) (Nat.le_of_ble_eq_true rfl)
  rw [lg_entry_eq]
  generalize (lg_sl ([.ref (v 0), .int xp]) ++ List.replicate (2 - (lg_sl ([.ref (v 0), .int xp])).length) Slot.unset).toArray = ls at hl ⊢
  have hl : lv_has ls 2 [(0, .ref (v 0)), (1, .int xp)] := hl
  have hn28 := hN.1
  have hn30 := hN.2.1
  have hn37 := hN.2.2.1
  refine lv_iload_n hx hb dX5_partitionAt_0 rfl (lv_at hl 1 rfl) ?_
  refine lv_if_lt (tgt := 9) hx hb dX5_partitionAt_1 (by decide) (fun c457 => ?_) (fun c457 => ?_)
  · refine lv_null hx hb dX5_partitionAt_9 ?_
    refine lv_goto (tgt := 19) hx hb dX5_partitionAt_10 (by decide) ?_
    exact W.aret (v := .null) hx hb hr (Or.inl ⟨_, rfl⟩) (Or.inl rfl) (fun t ht hW => ⟨none, rfl, (fun _ h => by cases h), ht⟩) (fun _ h => by cases h) dX5_partitionAt_19
  · refine lv_iload_n hx hb dX5_partitionAt_4 rfl (lv_at hl 1 rfl) ?_
    refine lv_iconst (v := 4) hx hb dX5_partitionAt_5 (by decide) ?_
    refine lv_icmp_lt (tgt := 13) hx hb dX5_partitionAt_6 (by decide) (fun c458 => ?_) (fun c458 => ?_)
    · refine lv_aload_n hx hb dX5_partitionAt_13 rfl (lv_at hl 0 rfl) ?_
      obtain ⟨j459, hj459⟩ := pG_5 (cy := cy) (N := N) (T := T) (I := I) (Q := Q) (J := J) (hC.at 0 (by decide)) (hC.k 0 (by decide) rfl)
      refine va_get (D := (dC, dI)) (ci := 5) (v := .ref (T (v 0) 0)) (C := RX5) (T := TX5) (N := 6) hx hb hts hi5 hown hK hP j459 hj459 rfl 0 (by decide) (hts (.fieldLink RX5 11 "TallyLogs" "partitions" "[LTallyLogs$Partition;") (by decide +kernel)) (fun _ h9 => h9) rfl dX5_partitionAt_14 ?_
      refine W.eq (g2 := F0 m 17 ls [.ref (v 1)]) (by rw [hC.1.2.2.1.1]) ?_
      refine lv_iload_n hx hb dX5_partitionAt_17 rfl (lv_at hl 1 rfl) ?_
      have hin461 : vp_in xp 4 := xin_of (by have kc457 := c457; have kc458 := c458; simp only [xk_lt, xk_le, xk_0, xk_1, xk_2, xk_3, xk_4, xk_5, xk_6, xk_7, xk_8, xk_50] at kc457 kc458; omega) (by have kc457 := c457; have kc458 := c458; simp only [xk_lt, xk_le, xk_0, xk_1, xk_2, xk_3, xk_4, xk_5, xk_6, xk_7, xk_8, xk_50] at kc457 kc458; omega)
      obtain ⟨j462, hj462⟩ := pG_10 (cy := cy) (N := N) (T := T) (I := I) (Q := Q) (J := J) (hC.at 1 (by decide)) (hC.k 1 (by decide) rfl)
      refine va_aldq hx hb hK hP j462 3 hj462 rfl hin461 dX5_partitionAt_18 ?_
      cases hq464 : Q (v 1) xp.toNatClampNeg with
      | none =>
        refine W.eq (g2 := F0 m 19 ls [.null]) rfl ?_
        exact W.aret (v := .null) hx hb hr (Or.inl ⟨_, rfl⟩) (Or.inl rfl) (fun t ht hW => ⟨none, rfl, (fun _ h => by cases h), ht⟩) (fun _ h => by cases h) dX5_partitionAt_19
      | some b463 =>
        have hTb463 := (hC.2.2.2.1 xp.toNatClampNeg b463 (vp_lt hin461) hq464)
        refine W.eq (g2 := F0 m 19 ls [.ref b463]) rfl ?_
        exact W.aret (v := .ref b463) hx hb hr (Or.inl ⟨_, rfl⟩) (Or.inr ⟨_, rfl⟩) (fun t ht hW => ⟨some b463, rfl, (fun _ h => by cases h; exact ⟨hTb463.1, hTb463.2⟩), ht⟩) (fun _ h => by cases h) dX5_partitionAt_19
    · refine lv_null hx hb dX5_partitionAt_9 ?_
      refine lv_goto (tgt := 19) hx hb dX5_partitionAt_10 (by decide) ?_
      exact W.aret (v := .null) hx hb hr (Or.inl ⟨_, rfl⟩) (Or.inl rfl) (fun t ht hW => ⟨none, rfl, (fun _ h => by cases h), ht⟩) (fun _ h => by cases h) dX5_partitionAt_19
set_option maxHeartbeats 4000000 in
set_option maxRecDepth 100000 in
/-- replicaOf -/
theorem c_X5_replicaOf (l : Launch) (dC : Nat → ClassId) (dI : Nat → Nat → Nat) (cy : Nat → ClassId) (v : Nat → Nat) (L : List Nat) (K N : Nat → Nat) (T : Nat → Nat → Nat) (I : Nat → Nat → Int32) (Q : Nat → Nat → Option Nat) (J : Nat → Nat → Int32) (xn : Int32) (xp : Int32) (hC : CT v L K N T I Q) : Met l yX5_replicaOf wsX5_replicaOf ({ frames := 1, cells := 0, slots := 0, locals := 21 }) (va_Pc [.ref (v 0), .int xn, .int xp] (pB dC dI cy L (pF cy K N T I Q J))) (va_Sq (fun r => ∀ b, r = some b → b ∈ L ∧ K b = 4)) 0 0 (fun _ => False) := by
  refine Met.ofW (cc := cX5_replicaOf) (maxL := 4) (ret := (some (.object "TallyLogs$Replica"))) (by decide) rfl ?_
  intro p e s m args below meth c s₁ B hml hv
  obtain ⟨rfl, hP, hK, hN⟩ := hv
  have hx := B.exec
  have hb := B.bytes
  have hr := B.returns
  have hts := atoms_spec (ws := wsX5_replicaOf) B.pre
  have hown : s.vm.findClass RX5 = some m.cls := findClass_of_methodNamed B.named
  have hlocks := B.notSynchronized
  have hi5 : ∀ w ∈ wsX50, w ∈ wsX5_replicaOf := by decide +kernel
  have hl := lv_entry ([.ref (v 0), .int xn, .int xp]) (n := 4) (Nat.le_of_ble_eq_true rfl)
  rw [lg_entry_eq]
  generalize (lg_sl ([.ref (v 0), .int xn, .int xp]) ++ List.replicate (4 - (lg_sl ([.ref (v 0), .int xn, .int xp])).length) Slot.unset).toArray = ls at hl ⊢
  have hl : lv_has ls 4 [(0, .ref (v 0)), (1, .int xn), (2, .int xp)] := hl
  have hn28 := hN.1
  have hn30 := hN.2.1
  have hn37 := hN.2.2.1
  refine lv_aload_n hx hb dX5_replicaOf_0 rfl (lv_at hl 0 rfl) ?_
  refine lv_iload_n hx hb dX5_replicaOf_1 rfl (lv_at hl 2 rfl) ?_
  obtain ⟨j466, hj466⟩ := pG_5 (cy := cy) (N := N) (T := T) (I := I) (Q := Q) (J := J) (hC.at 0 (by decide)) (hC.k 0 (by decide) rfl)
  refine va_csq (W.runV (As := [.int xp]) (rest := []) ⟨hx, hb, hml, hown, hts⟩ (c_X5_partitionAt l dC dI cy v L K N T I Q J  xp hC) (cwV 1 hts gX5_replicaOf_X5_partitionAt rfl rfl rfl (by decide +kernel) ⟨Nat.le_of_ble_eq_true rfl, Nat.le_of_ble_eq_true rfl⟩) ⟨pb_blind, va_recv hK hP (ci := 5) (q0 := j466) rfl hj466, fun U hU hW => ⟨rfl, pb_pre hP hK hN hU hW⟩⟩ rfl rfl hl.1 rfl (lv_room (Nat.le_of_ble_eq_true rfl)) dX5_replicaOf_2 ⟨Nat.le_of_ble_eq_true rfl, Nat.le_of_ble_eq_true rfl⟩) (fun r465 hr465 => ?_)
  cases r465 with
  | none =>
    refine W.eq (g2 := F0 m 5 ls [.null]) rfl ?_
    refine lv_astore_nN (lv' := [(3, .null), (0, .ref (v 0)), (1, .int xn), (2, .int xp)]) hx hb dX5_replicaOf_5 rfl hl (by decide) rfl (fun ls hl => ?_)
    refine lv_aload_nN hx hb dX5_replicaOf_6 rfl (lv_at hl 0 rfl) ?_
    refine lv_ifnonnullN hx hb dX5_replicaOf_7 ?_
    refine lv_null hx hb dX5_replicaOf_10 ?_
    refine lv_goto (tgt := 19) hx hb dX5_replicaOf_11 (by decide) ?_
    exact W.aret (v := .null) hx hb hr (Or.inl ⟨_, rfl⟩) (Or.inl rfl) (fun t ht hW => ⟨none, rfl, (fun _ h => by cases h), ht⟩) (fun _ h => by cases h) dX5_replicaOf_19
  | some b467 =>
    have hTb467 := hr465 b467 rfl
    refine W.eq (g2 := F0 m 5 ls [.ref b467]) rfl ?_
    refine lv_astore_n (lv' := [(3, .ref b467), (0, .ref (v 0)), (1, .int xn), (2, .int xp)]) hx hb dX5_replicaOf_5 rfl hl (by decide) rfl (fun ls hl => ?_)
    refine lv_aload_n hx hb dX5_replicaOf_6 rfl (lv_at hl 0 rfl) ?_
    refine lv_ifnonnull (tgt := 14) hx hb dX5_replicaOf_7 (by decide) ?_
    refine lv_aload_n hx hb dX5_replicaOf_14 rfl (lv_at hl 0 rfl) ?_
    refine lv_iload_n hx hb dX5_replicaOf_15 rfl (lv_at hl 2 rfl) ?_
    obtain ⟨j469, hj469⟩ := pG_2 (cy := cy) (N := N) (T := T) (I := I) (Q := Q) (J := J) hTb467.1 hTb467.2
    refine va_csq (W.runV (As := [.int xn]) (rest := []) ⟨hx, hb, hml, hown, hts⟩ (c_X2_replicaAt l dC dI cy v L K N T I Q J b467 xn hC hTb467.1 hTb467.2) (cwV 1 hts gX5_replicaOf_X2_replicaAt rfl rfl rfl (by decide +kernel) ⟨Nat.le_of_ble_eq_true rfl, Nat.le_of_ble_eq_true rfl⟩) ⟨pb_blind, va_recv hK hP (ci := 2) (q0 := j469) rfl hj469, fun U hU hW => ⟨rfl, pb_pre hP hK hN hU hW⟩⟩ rfl rfl hl.1 rfl (lv_room (Nat.le_of_ble_eq_true rfl)) dX5_replicaOf_16 ⟨Nat.le_of_ble_eq_true rfl, Nat.le_of_ble_eq_true rfl⟩) (fun r468 hr468 => ?_)
    cases r468 with
    | none =>
      refine W.eq (g2 := F0 m 19 ls [.null]) rfl ?_
      exact W.aret (v := .null) hx hb hr (Or.inl ⟨_, rfl⟩) (Or.inl rfl) (fun t ht hW => ⟨none, rfl, (fun _ h => by cases h), ht⟩) (fun _ h => by cases h) dX5_replicaOf_19
    | some b470 =>
      have hTb470 := hr468 b470 rfl
      refine W.eq (g2 := F0 m 19 ls [.ref b470]) rfl ?_
      exact W.aret (v := .ref b470) hx hb hr (Or.inl ⟨_, rfl⟩) (Or.inr ⟨_, rfl⟩) (fun t ht hW => ⟨some b470, rfl, (fun _ h => by cases h; exact ⟨hTb470.1, hTb470.2⟩), ht⟩) (fun _ h => by cases h) dX5_replicaOf_19
set_option maxHeartbeats 4000000 in
set_option maxRecDepth 100000 in
/-- safe -/
theorem c_X5_safe (l : Launch) (dC : Nat → ClassId) (dI : Nat → Nat → Nat) (cy : Nat → ClassId) (v : Nat → Nat) (L : List Nat) (K N : Nat → Nat) (T : Nat → Nat → Nat) (I : Nat → Nat → Int32) (Q : Nat → Nat → Option Nat) (J : Nat → Nat → Int32) (xp : Int32) (xo : Int32) (hC : CT v L K N T I Q) : Met l yX5_safe wsX5_safe ({ frames := 2, cells := 0, slots := 0, locals := 41 }) (va_Pc [.ref (v 0), .int xp, .int xo] (pB dC dI cy L (pF cy K N T I Q J))) (vp_Si (fun r => True)) 0 0 (fun _ => False) := by
  refine Met.ofW (cc := cX5_safe) (maxL := 5) (ret := (some .int)) (by decide) rfl ?_
  intro p e s m args below meth c s₁ B hml hv
  obtain ⟨rfl, hP, hK, hN⟩ := hv
  have hx := B.exec
  have hb := B.bytes
  have hr := B.returns
  have hts := atoms_spec (ws := wsX5_safe) B.pre
  have hown : s.vm.findClass RX5 = some m.cls := findClass_of_methodNamed B.named
  have hlocks := B.notSynchronized
  have hi5 : ∀ w ∈ wsX50, w ∈ wsX5_safe := by decide +kernel
  have hi4 : ∀ w ∈ wsX40, w ∈ wsX5_safe := by decide +kernel
  have hl := lv_entry ([.ref (v 0), .int xp, .int xo]) (n := 5) (Nat.le_of_ble_eq_true rfl)
  rw [lg_entry_eq]
  generalize (lg_sl ([.ref (v 0), .int xp, .int xo]) ++ List.replicate (5 - (lg_sl ([.ref (v 0), .int xp, .int xo])).length) Slot.unset).toArray = ls at hl ⊢
  have hl : lv_has ls 5 [(0, .ref (v 0)), (1, .int xp), (2, .int xo)] := hl
  have hn28 := hN.1
  have hn30 := hN.2.1
  have hn37 := hN.2.2.1
  refine lv_aload_n hx hb dX5_safe_0 rfl (lv_at hl 0 rfl) ?_
  refine lv_iload_n hx hb dX5_safe_1 rfl (lv_at hl 1 rfl) ?_
  obtain ⟨j472, hj472⟩ := pG_5 (cy := cy) (N := N) (T := T) (I := I) (Q := Q) (J := J) (hC.at 0 (by decide)) (hC.k 0 (by decide) rfl)
  refine va_csq (W.runV (As := [.int xp]) (rest := []) ⟨hx, hb, hml, hown, hts⟩ (c_X5_partitionAt l dC dI cy v L K N T I Q J  xp hC) (cwV 1 hts gX5_safe_X5_partitionAt rfl rfl rfl (by decide +kernel) ⟨Nat.le_of_ble_eq_true rfl, Nat.le_of_ble_eq_true rfl⟩) ⟨pb_blind, va_recv hK hP (ci := 5) (q0 := j472) rfl hj472, fun U hU hW => ⟨rfl, pb_pre hP hK hN hU hW⟩⟩ rfl rfl hl.1 rfl (lv_room (Nat.le_of_ble_eq_true rfl)) dX5_safe_2 ⟨Nat.le_of_ble_eq_true rfl, Nat.le_of_ble_eq_true rfl⟩) (fun r471 hr471 => ?_)
  cases r471 with
  | none =>
    refine W.eq (g2 := F0 m 5 ls [.null]) rfl ?_
    refine lv_astore_nN (lv' := [(3, .null), (0, .ref (v 0)), (1, .int xp), (2, .int xo)]) hx hb dX5_safe_5 rfl hl (by decide) rfl (fun ls hl => ?_)
    refine lv_aload_nN hx hb dX5_safe_6 rfl (lv_at hl 0 rfl) ?_
    refine lv_ifnonnullN hx hb dX5_safe_7 ?_
    refine lv_iconst (v := (-1)) hx hb dX5_safe_10 (by decide) ?_
    exact W.iret (v := (-1)) hx hb hr (fun t ht hW => ⟨(-1), rfl, trivial, ht⟩) (fun _ h => by cases h) dX5_safe_11
  | some b473 =>
    have hTb473 := hr471 b473 rfl
    refine W.eq (g2 := F0 m 5 ls [.ref b473]) rfl ?_
    refine lv_astore_n (lv' := [(3, .ref b473), (0, .ref (v 0)), (1, .int xp), (2, .int xo)]) hx hb dX5_safe_5 rfl hl (by decide) rfl (fun ls hl => ?_)
    refine lv_aload_n hx hb dX5_safe_6 rfl (lv_at hl 0 rfl) ?_
    refine lv_ifnonnull (tgt := 12) hx hb dX5_safe_7 (by decide) ?_
    refine lv_aload_n hx hb dX5_safe_12 rfl (lv_at hl 0 rfl) ?_
    obtain ⟨j475, hj475⟩ := pG_2 (cy := cy) (N := N) (T := T) (I := I) (Q := Q) (J := J) hTb473.1 hTb473.2
    refine va_csq (W.runV (As := []) (rest := []) ⟨hx, hb, hml, hown, hts⟩ (c_X2_leading l dC dI cy v L K N T I Q J b473  hC hTb473.1 hTb473.2) (cwV 0 hts gX5_safe_X2_leading rfl rfl rfl (by decide +kernel) ⟨Nat.le_of_ble_eq_true rfl, Nat.le_of_ble_eq_true rfl⟩) ⟨pb_blind, va_recv hK hP (ci := 2) (q0 := j475) rfl hj475, fun U hU hW => ⟨rfl, pb_pre hP hK hN hU hW⟩⟩ rfl rfl hl.1 rfl (lv_room (Nat.le_of_ble_eq_true rfl)) dX5_safe_13 ⟨Nat.le_of_ble_eq_true rfl, Nat.le_of_ble_eq_true rfl⟩) (fun r474 hr474 => ?_)
    cases r474 with
    | none =>
      refine W.eq (g2 := F0 m 16 ls [.null]) rfl ?_
      refine lv_astoreN (lv' := [(4, .null), (3, .ref b473), (0, .ref (v 0)), (1, .int xp), (2, .int xo)]) hx hb dX5_safe_16 hl (by decide) rfl (fun ls hl => ?_)
      refine lv_aloadN hx hb dX5_safe_18 (lv_at hl 0 rfl) ?_
      refine lv_ifnonnullN hx hb dX5_safe_20 ?_
      refine lv_bipush (v := (-2)) hx hb dX5_safe_23 (by decide) ?_
      exact W.iret (v := (-2)) hx hb hr (fun t ht hW => ⟨(-2), rfl, trivial, ht⟩) (fun _ h => by cases h) dX5_safe_25
    | some b476 =>
      have hTb476 := hr474 b476 rfl
      refine W.eq (g2 := F0 m 16 ls [.ref b476]) rfl ?_
      refine lv_astore (lv' := [(4, .ref b476), (3, .ref b473), (0, .ref (v 0)), (1, .int xp), (2, .int xo)]) hx hb dX5_safe_16 hl (by decide) rfl (fun ls hl => ?_)
      refine lv_aload hx hb dX5_safe_18 (lv_at hl 0 rfl) ?_
      refine lv_ifnonnull (tgt := 26) hx hb dX5_safe_20 (by decide) ?_
      refine lv_iload_n hx hb dX5_safe_26 rfl (lv_at hl 4 rfl) ?_
      refine lv_aload hx hb dX5_safe_27 (lv_at hl 0 rfl) ?_
      obtain ⟨j477, hj477⟩ := pG_4 (cy := cy) (N := N) (T := T) (I := I) (Q := Q) (J := J) hTb476.1 hTb476.2
      refine va_get (D := (dC, dI)) (ci := 4) (v := .int (I b476 3)) (C := RX4) (T := TX4) (N := 7) hx hb hts hi4 hown hK hP j477 hj477 rfl 3 (by decide) (hts (.fieldLink RX5 146 "TallyLogs$Replica" "hw" "I") (by decide +kernel)) (fun _ h9 => h9) rfl dX5_safe_29 ?_
      refine lv_topi (fun x478 ex478 => ?_)
      refine lv_icmp_ge (tgt := 39) hx hb dX5_safe_32 (by decide) (fun c479 => ?_) (fun c479 => ?_)
      · refine lv_iconst (v := 0) hx hb dX5_safe_39 (by decide) ?_
        exact W.iret (v := 0) hx hb hr (fun t ht hW => ⟨0, rfl, trivial, ht⟩) (fun _ h => by cases h) dX5_safe_40
      · refine lv_iconst (v := 1) hx hb dX5_safe_35 (by decide) ?_
        refine lv_goto (tgt := 40) hx hb dX5_safe_36 (by decide) ?_
        exact W.iret (v := 1) hx hb hr (fun t ht hW => ⟨1, rfl, trivial, ht⟩) (fun _ h => by cases h) dX5_safe_40
end
