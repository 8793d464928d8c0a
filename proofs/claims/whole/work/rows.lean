section
-- ===== PART A: goes FIRST, ahead of the names: the tables' words, and 'selects' of the private methods out of them =====
/-- a private method of a class that the tables say can be made, by its rows of tables_1 -/
def lw_okq (q : MethodName × Nat) : Prop := (q.1.cls ≠ "java/lang/invoke/MethodHandle" ∧ q.1.cls ≠ "java/lang/invoke/VarHandle") ∧ Cond.instantiable q.1.cls q.2 ∈ tables_1 ∧ Cond.privateMethod q.1 ∈ tables_1 ∧ Cond.instanceMethod q.1 ∈ tables_1
theorem lw_p0 : lw_okq (⟨"ForkStore$ForkCounter", "endLongerThan", "(II)I"⟩, 1) := ⟨⟨by decide +kernel, by decide +kernel⟩, List.mem_of_getElem? (i := 45) (by decide +kernel), List.mem_of_getElem? (i := 164) (by decide +kernel), List.mem_of_getElem? (i := 165) (by decide +kernel)⟩
theorem lw_p1 : lw_okq (⟨"ForkStore$ForkCounter", "addBranch", "(IZ)V"⟩, 1) := ⟨⟨by decide +kernel, by decide +kernel⟩, List.mem_of_getElem? (i := 45) (by decide +kernel), List.mem_of_getElem? (i := 178) (by decide +kernel), List.mem_of_getElem? (i := 179) (by decide +kernel)⟩
theorem lw_p2 : lw_okq (⟨"ForkStore", "readerOrNull", "(I)LForkStore$Reader;"⟩, 3) := ⟨⟨by decide +kernel, by decide +kernel⟩, List.mem_of_getElem? (i := 16) (by decide +kernel), List.mem_of_getElem? (i := 201) (by decide +kernel), List.mem_of_getElem? (i := 202) (by decide +kernel)⟩
theorem lw_p3 : lw_okq (⟨"ForkStore", "openReaderOrNull", "(I)LForkStore$Reader;"⟩, 3) := ⟨⟨by decide +kernel, by decide +kernel⟩, List.mem_of_getElem? (i := 16) (by decide +kernel), List.mem_of_getElem? (i := 221) (by decide +kernel), List.mem_of_getElem? (i := 222) (by decide +kernel)⟩
theorem lw_p4 : lw_okq (⟨"java/lang/Throwable", "fillInStackTrace", "(I)Ljava/lang/Throwable;"⟩, 6) := ⟨⟨by decide +kernel, by decide +kernel⟩, List.mem_of_getElem? (i := 309) (by decide +kernel), List.mem_of_getElem? (i := 307) (by decide +kernel), List.mem_of_getElem? (i := 308) (by decide +kernel)⟩
theorem lw_p5 : lw_okq (⟨"ForkStoreModel", "place", "(IJI)I"⟩, 7) := ⟨⟨by decide +kernel, by decide +kernel⟩, List.mem_of_getElem? (i := 420) (by decide +kernel), List.mem_of_getElem? (i := 460) (by decide +kernel), List.mem_of_getElem? (i := 461) (by decide +kernel)⟩
theorem lw_p6 : lw_okq (⟨"ForkStoreModel", "order", "(IJI)I"⟩, 7) := ⟨⟨by decide +kernel, by decide +kernel⟩, List.mem_of_getElem? (i := 420) (by decide +kernel), List.mem_of_getElem? (i := 464) (by decide +kernel), List.mem_of_getElem? (i := 465) (by decide +kernel)⟩
theorem lw_p7 : lw_okq (⟨"ForkStoreModel", "has", "(IIJI)Z"⟩, 7) := ⟨⟨by decide +kernel, by decide +kernel⟩, List.mem_of_getElem? (i := 420) (by decide +kernel), List.mem_of_getElem? (i := 469) (by decide +kernel), List.mem_of_getElem? (i := 470) (by decide +kernel)⟩
theorem lw_p8 : lw_okq (⟨"ForkStoreModel", "copy", "(II)V"⟩, 7) := ⟨⟨by decide +kernel, by decide +kernel⟩, List.mem_of_getElem? (i := 420) (by decide +kernel), List.mem_of_getElem? (i := 473) (by decide +kernel), List.mem_of_getElem? (i := 474) (by decide +kernel)⟩
theorem lw_p9 : lw_okq (⟨"ForkStoreModel", "begins", "(IJI)Z"⟩, 7) := ⟨⟨by decide +kernel, by decide +kernel⟩, List.mem_of_getElem? (i := 420) (by decide +kernel), List.mem_of_getElem? (i := 493) (by decide +kernel), List.mem_of_getElem? (i := 494) (by decide +kernel)⟩
theorem lw_p10 : lw_okq (⟨"ForkStoreModel", "branches", "(JI)I"⟩, 7) := ⟨⟨by decide +kernel, by decide +kernel⟩, List.mem_of_getElem? (i := 420) (by decide +kernel), List.mem_of_getElem? (i := 505) (by decide +kernel), List.mem_of_getElem? (i := 506) (by decide +kernel)⟩
theorem lw_p11 : lw_okq (⟨"ForkStoreModel", "isOpen", "(I)Z"⟩, 7) := ⟨⟨by decide +kernel, by decide +kernel⟩, List.mem_of_getElem? (i := 420) (by decide +kernel), List.mem_of_getElem? (i := 527) (by decide +kernel), List.mem_of_getElem? (i := 528) (by decide +kernel)⟩
theorem lw_p12 : lw_okq (⟨"ForkStoreModel", "on", "(I)I"⟩, 7) := ⟨⟨by decide +kernel, by decide +kernel⟩, List.mem_of_getElem? (i := 420) (by decide +kernel), List.mem_of_getElem? (i := 543) (by decide +kernel), List.mem_of_getElem? (i := 544) (by decide +kernel)⟩
def lw_privs_1 : List (MethodName × Nat) := [(⟨"ForkStore$ForkCounter", "endLongerThan", "(II)I"⟩, 1), (⟨"ForkStore$ForkCounter", "addBranch", "(IZ)V"⟩, 1), (⟨"ForkStore", "readerOrNull", "(I)LForkStore$Reader;"⟩, 3), (⟨"ForkStore", "openReaderOrNull", "(I)LForkStore$Reader;"⟩, 3), (⟨"java/lang/Throwable", "fillInStackTrace", "(I)Ljava/lang/Throwable;"⟩, 6), (⟨"ForkStoreModel", "place", "(IJI)I"⟩, 7), (⟨"ForkStoreModel", "order", "(IJI)I"⟩, 7), (⟨"ForkStoreModel", "has", "(IIJI)Z"⟩, 7), (⟨"ForkStoreModel", "copy", "(II)V"⟩, 7), (⟨"ForkStoreModel", "begins", "(IJI)Z"⟩, 7), (⟨"ForkStoreModel", "branches", "(JI)I"⟩, 7), (⟨"ForkStoreModel", "isOpen", "(I)Z"⟩, 7), (⟨"ForkStoreModel", "on", "(I)I"⟩, 7)]
theorem lw_r1 : ∀ q ∈ lw_privs_1, lw_okq q := List.forall_mem_cons.mpr ⟨lw_p0, List.forall_mem_cons.mpr ⟨lw_p1, List.forall_mem_cons.mpr ⟨lw_p2, List.forall_mem_cons.mpr ⟨lw_p3, List.forall_mem_cons.mpr ⟨lw_p4, List.forall_mem_cons.mpr ⟨lw_p5, List.forall_mem_cons.mpr ⟨lw_p6, List.forall_mem_cons.mpr ⟨lw_p7, List.forall_mem_cons.mpr ⟨lw_p8, List.forall_mem_cons.mpr ⟨lw_p9, List.forall_mem_cons.mpr ⟨lw_p10, List.forall_mem_cons.mpr ⟨lw_p11, List.forall_mem_cons.mpr ⟨lw_p12, fun _ h => absurd h List.not_mem_nil⟩⟩⟩⟩⟩⟩⟩⟩⟩⟩⟩⟩⟩
def lw_privs : List (MethodName × Nat) := lw_privs_1
def lw_tbl : List Cond := k2_sels lw_privs ++ tables_1
theorem lw_privs_ok : ∀ q ∈ lw_privs, lw_okq q := lw_r1
end
section
/-! ===== BEGIN words of one list among another's, by their places ===== -/
theorem goodIn_r {big : List Cond} (ws : List Cond) (ps : List Nat) (hp : ws = ps.filterMap (fun i => big[i]?)) (h : ws.all goodWord = true) : GoodIn big ws := by
  intro w hw
  have h1 := List.all_eq_true.mp h w hw
  rw [hp] at hw
  obtain ⟨i, -, hi⟩ := List.mem_filterMap.mp hw
  have hm : w ∈ big := by first | exact List.mem_of_getElem? hi | exact List.getElem?_mem hi
  exact ⟨hm, good_of_word h1⟩
theorem goodIn_app {big a b : List Cond} (ha : GoodIn big a) (hb : GoodIn big b) : GoodIn big (a ++ b) := fun w h => (List.mem_append.mp h).elim (ha w) (hb w)
theorem goodIn_ca {big a b : List Cond} {c : Cond} (ha : GoodIn big (c :: a)) (hb : GoodIn big b) : GoodIn big (c :: (a ++ b)) := fun w h => (List.mem_cons.mp h).elim (fun e => ha w (List.mem_cons.mpr (Or.inl e))) (fun h => (List.mem_append.mp h).elim (fun h => ha w (List.mem_cons.mpr (Or.inr h))) (hb w))
theorem goodIn_sub {big ws : List Cond} (hm : ∀ w ∈ ws, w ∈ big) (h : ws.all goodWord = true) : GoodIn big ws := fun w hw => ⟨hm w hw, good_of_word (List.all_eq_true.mp h w hw)⟩
/-! ===== END ===== -/

def vx_no (w : Cond) : Bool := decide (w ≠ .isRef (.static Bundle.tN "UNASSIGNED_STACK" Bundle.steD)) && decide (w ≠ .isRef (.static Bundle.tN "SUPPRESSED_SENTINEL" Bundle.listD)) && decide (w ≠ .laysStatic Bundle.tN "UNASSIGNED_STACK" Bundle.steD) && decide (w ≠ .laysStatic Bundle.tN "SUPPRESSED_SENTINEL" Bundle.listD)
def vx_at0 (own : String) (ic : Nat) (X : String) (names : List String) : List Cond := (Bundle.ownAtoms0 own ic X names).filter vx_no
def vx_atS (own : String) (ic : Nat) (X : String) (names : List String) : List Cond := (Bundle.ownAtoms own ic X names).filter vx_no
end
section
/-! ===== BEGIN printed: names, fields, word lists, decode rows ===== -/
def RX0 : String := "ForkStore$ForkCounter"
def TX0 : u_T := fun k => match k with
  | _ => ("ForkStore$ForkCounter", "branches", "[I", true)
def tyX0 : Nat → FieldType := fun k => match k with
  | _ => .array .int
abbrev wsX00 : List Cond := u_ws RX0 TX0 1
theorem nmX0 : ∀ a, a < 1 → ∀ b, b < 1 → a ≠ b → (TX0 a).2.1 ≠ (TX0 b).2.1 := by decide +kernel
theorem tyX0_ok : ∀ k, k < 1 → parseFieldDescriptor (TX0 k).2.2.1 = some (tyX0 k) := by decide +kernel
abbrev cX0_init : ByteArray := prog_2_method_1_code
def yX0_init : MethodName := ⟨RX0, "<init>", "()V"⟩
abbrev cX0_countOfSize : ByteArray := prog_2_method_2_code
def yX0_countOfSize : MethodName := ⟨RX0, "countOfSize", "(LForkStore$Keys;I)I"⟩
abbrev cX0_addBranch : ByteArray := prog_2_method_3_code
def yX0_addBranch : MethodName := ⟨RX0, "addBranch", "(IZ)V"⟩
abbrev cX0_endLongerThan : ByteArray := prog_2_method_4_code
def yX0_endLongerThan : MethodName := ⟨RX0, "endLongerThan", "(II)I"⟩
abbrev cX0_sizeOf : ByteArray := prog_2_method_5_code
def yX0_sizeOf : MethodName := ⟨RX0, "sizeOf", "(I)I"⟩
def RX1 : String := "ForkStore$Keys"
def TX1 : u_T := fun k => match k with
  | 0 => ("ForkStore$Keys", "words", "[J", true)
  | 1 => ("ForkStore$Keys", "sizes", "[I", true)
  | 2 => ("ForkStore$Keys", "numbers", "[I", true)
  | _ => ("ForkStore$Keys", "count", "I", false)
def tyX1 : Nat → FieldType := fun k => match k with
  | 0 => .array .long
  | 1 => .array .int
  | 2 => .array .int
  | _ => .int
abbrev wsX10 : List Cond := u_ws RX1 TX1 4
theorem nmX1 : ∀ a, a < 4 → ∀ b, b < 4 → a ≠ b → (TX1 a).2.1 ≠ (TX1 b).2.1 := by decide +kernel
theorem tyX1_ok : ∀ k, k < 4 → parseFieldDescriptor (TX1 k).2.2.1 = some (tyX1 k) := by decide +kernel
abbrev cX1_init : ByteArray := prog_3_method_1_code
def yX1_init : MethodName := ⟨RX1, "<init>", "()V"⟩
abbrev cX1_count : ByteArray := prog_3_method_2_code
def yX1_count : MethodName := ⟨RX1, "count", "()I"⟩
abbrev cX1_isFull : ByteArray := prog_3_method_3_code
def yX1_isFull : MethodName := ⟨RX1, "isFull", "()Z"⟩
abbrev cX1_isPlace : ByteArray := prog_3_method_4_code
def yX1_isPlace : MethodName := ⟨RX1, "isPlace", "(I)Z"⟩
abbrev cX1_standsAt : ByteArray := prog_3_method_5_code
def yX1_standsAt : MethodName := ⟨RX1, "standsAt", "(IJI)Z"⟩
abbrev cX1_wordAt : ByteArray := prog_3_method_6_code
def yX1_wordAt : MethodName := ⟨RX1, "wordAt", "(I)J"⟩
abbrev cX1_sizeAt : ByteArray := prog_3_method_7_code
def yX1_sizeAt : MethodName := ⟨RX1, "sizeAt", "(I)I"⟩
abbrev cX1_numberAt : ByteArray := prog_3_method_8_code
def yX1_numberAt : MethodName := ⟨RX1, "numberAt", "(I)I"⟩
abbrev cX1_setNumber : ByteArray := prog_3_method_9_code
def yX1_setNumber : MethodName := ⟨RX1, "setNumber", "(II)V"⟩
abbrev cX1_countBefore : ByteArray := prog_3_method_10_code
def yX1_countBefore : MethodName := ⟨RX1, "countBefore", "(JI)I"⟩
abbrev cX1_countBeginningWith : ByteArray := prog_3_method_11_code
def yX1_countBeginningWith : MethodName := ⟨RX1, "countBeginningWith", "(JI)I"⟩
abbrev cX1_forkBehind : ByteArray := prog_3_method_12_code
def yX1_forkBehind : MethodName := ⟨RX1, "forkBehind", "(I)I"⟩
abbrev cX1_countForksOnTheWayTo : ByteArray := prog_3_method_13_code
def yX1_countForksOnTheWayTo : MethodName := ⟨RX1, "countForksOnTheWayTo", "(JI)I"⟩
abbrev cX1_insert : ByteArray := prog_3_method_14_code
def yX1_insert : MethodName := ⟨RX1, "insert", "(IJII)V"⟩
abbrev cX1_takeOut : ByteArray := prog_3_method_15_code
def yX1_takeOut : MethodName := ⟨RX1, "takeOut", "(I)V"⟩
abbrev cX1_copyFrom : ByteArray := prog_3_method_16_code
def yX1_copyFrom : MethodName := ⟨RX1, "copyFrom", "(LForkStore$Keys;)V"⟩
def RX2 : String := "ForkStore$Reader"
def TX2 : u_T := fun k => match k with
  | 0 => ("ForkStore$Reader", "seen", "LForkStore$Keys;", true)
  | 1 => ("ForkStore$Reader", "isOpen", "Z", false)
  | _ => ("ForkStore$Reader", "place", "I", false)
def tyX2 : Nat → FieldType := fun k => match k with
  | 0 => .object "ForkStore$Keys"
  | 1 => .boolean
  | _ => .int
abbrev wsX20 : List Cond := u_ws RX2 TX2 3
theorem nmX2 : ∀ a, a < 3 → ∀ b, b < 3 → a ≠ b → (TX2 a).2.1 ≠ (TX2 b).2.1 := by decide +kernel
theorem tyX2_ok : ∀ k, k < 3 → parseFieldDescriptor (TX2 k).2.2.1 = some (tyX2 k) := by decide +kernel
abbrev cX2_init : ByteArray := prog_4_method_1_code
def yX2_init : MethodName := ⟨RX2, "<init>", "()V"⟩
abbrev cX2_isOpen : ByteArray := prog_4_method_2_code
def yX2_isOpen : MethodName := ⟨RX2, "isOpen", "()Z"⟩
abbrev cX2_begin : ByteArray := prog_4_method_3_code
def yX2_begin : MethodName := ⟨RX2, "begin", "(LForkStore$Keys;)V"⟩
abbrev cX2_end : ByteArray := prog_4_method_4_code
def yX2_end : MethodName := ⟨RX2, "end", "()V"⟩
abbrev cX2_goToOrBehind : ByteArray := prog_4_method_5_code
def yX2_goToOrBehind : MethodName := ⟨RX2, "goToOrBehind", "(JI)Z"⟩
abbrev cX2_goOn : ByteArray := prog_4_method_6_code
def yX2_goOn : MethodName := ⟨RX2, "goOn", "()Z"⟩
abbrev cX2_bytesHere : ByteArray := prog_4_method_7_code
def yX2_bytesHere : MethodName := ⟨RX2, "bytesHere", "()J"⟩
abbrev cX2_sizeHere : ByteArray := prog_4_method_8_code
def yX2_sizeHere : MethodName := ⟨RX2, "sizeHere", "()I"⟩
abbrev cX2_numberHere : ByteArray := prog_4_method_9_code
def yX2_numberHere : MethodName := ⟨RX2, "numberHere", "()I"⟩
def RX3 : String := "ForkStore"
def TX3 : u_T := fun k => match k with
  | 0 => ("ForkStore", "keys", "LForkStore$Keys;", true)
  | 1 => ("ForkStore", "counter", "LForkStore$ForkCounter;", true)
  | _ => ("ForkStore", "readers", "[LForkStore$Reader;", true)
def tyX3 : Nat → FieldType := fun k => match k with
  | 0 => .object "ForkStore$Keys"
  | 1 => .object "ForkStore$ForkCounter"
  | _ => .array (.object "ForkStore$Reader")
abbrev wsX30 : List Cond := u_ws RX3 TX3 3
theorem nmX3 : ∀ a, a < 3 → ∀ b, b < 3 → a ≠ b → (TX3 a).2.1 ≠ (TX3 b).2.1 := by decide +kernel
theorem tyX3_ok : ∀ k, k < 3 → parseFieldDescriptor (TX3 k).2.2.1 = some (tyX3 k) := by decide +kernel
abbrev cX3_init : ByteArray := prog_1_method_1_code
def yX3_init : MethodName := ⟨RX3, "<init>", "()V"⟩
abbrev cX3_put : ByteArray := prog_1_method_2_code
def yX3_put : MethodName := ⟨RX3, "put", "(JII)Z"⟩
abbrev cX3_get : ByteArray := prog_1_method_3_code
def yX3_get : MethodName := ⟨RX3, "get", "(JI)I"⟩
abbrev cX3_remove : ByteArray := prog_1_method_4_code
def yX3_remove : MethodName := ⟨RX3, "remove", "(JI)Z"⟩
abbrev cX3_size : ByteArray := prog_1_method_5_code
def yX3_size : MethodName := ⟨RX3, "size", "()I"⟩
abbrev cX3_within : ByteArray := prog_1_method_6_code
def yX3_within : MethodName := ⟨RX3, "within", "(JI)I"⟩
abbrev cX3_rank : ByteArray := prog_1_method_7_code
def yX3_rank : MethodName := ⟨RX3, "rank", "(JI)I"⟩
abbrev cX3_forks : ByteArray := prog_1_method_8_code
def yX3_forks : MethodName := ⟨RX3, "forks", "(I)I"⟩
abbrev cX3_depth : ByteArray := prog_1_method_9_code
def yX3_depth : MethodName := ⟨RX3, "depth", "(JI)I"⟩
abbrev cX3_open : ByteArray := prog_1_method_10_code
def yX3_open : MethodName := ⟨RX3, "open", "(I)Z"⟩
abbrev cX3_close : ByteArray := prog_1_method_11_code
def yX3_close : MethodName := ⟨RX3, "close", "(I)Z"⟩
abbrev cX3_seek : ByteArray := prog_1_method_12_code
def yX3_seek : MethodName := ⟨RX3, "seek", "(IJI)Z"⟩
abbrev cX3_next : ByteArray := prog_1_method_13_code
def yX3_next : MethodName := ⟨RX3, "next", "(I)Z"⟩
abbrev cX3_key : ByteArray := prog_1_method_14_code
def yX3_key : MethodName := ⟨RX3, "key", "(I)J"⟩
abbrev cX3_length : ByteArray := prog_1_method_15_code
def yX3_length : MethodName := ⟨RX3, "length", "(I)I"⟩
abbrev cX3_value : ByteArray := prog_1_method_16_code
def yX3_value : MethodName := ⟨RX3, "value", "(I)I"⟩
abbrev cX3_readerOrNull : ByteArray := prog_1_method_17_code
def yX3_readerOrNull : MethodName := ⟨RX3, "readerOrNull", "(I)LForkStore$Reader;"⟩
abbrev cX3_openReaderOrNull : ByteArray := prog_1_method_18_code
def yX3_openReaderOrNull : MethodName := ⟨RX3, "openReaderOrNull", "(I)LForkStore$Reader;"⟩
abbrev cX3_isKeySize : ByteArray := prog_1_method_19_code
def yX3_isKeySize : MethodName := ⟨RX3, "isKeySize", "(I)Z"⟩
abbrev cX3_highestBytes : ByteArray := prog_1_method_20_code
def yX3_highestBytes : MethodName := ⟨RX3, "highestBytes", "(JI)J"⟩
abbrev cX3_bytesInCommon : ByteArray := prog_1_method_21_code
def yX3_bytesInCommon : MethodName := ⟨RX3, "bytesInCommon", "(JIJI)I"⟩
def RX4 : String := "ForkStoreModel"
def TX4 : u_T := fun k => match k with
  | 0 => ("ForkStoreModel", "thrown", "I", false)
  | 1 => ("ForkStoreModel", "counts", "[I", true)
  | 2 => ("ForkStoreModel", "words", "[J", true)
  | 3 => ("ForkStoreModel", "sizes", "[I", true)
  | 4 => ("ForkStoreModel", "values", "[I", true)
  | 5 => ("ForkStoreModel", "open", "[Z", true)
  | _ => ("ForkStoreModel", "where", "[I", true)
def tyX4 : Nat → FieldType := fun k => match k with
  | 0 => .int
  | 1 => .array .int
  | 2 => .array .long
  | 3 => .array .int
  | 4 => .array .int
  | 5 => .array .boolean
  | _ => .array .int
abbrev wsX40 : List Cond := u_ws RX4 TX4 7
theorem nmX4 : ∀ a, a < 7 → ∀ b, b < 7 → a ≠ b → (TX4 a).2.1 ≠ (TX4 b).2.1 := by decide +kernel
theorem tyX4_ok : ∀ k, k < 7 → parseFieldDescriptor (TX4 k).2.2.1 = some (tyX4 k) := by decide +kernel
abbrev cX4_init : ByteArray := prog_6_method_1_code
def yX4_init : MethodName := ⟨RX4, "<init>", "()V"⟩
abbrev cX4_thrown : ByteArray := prog_6_method_2_code
def yX4_thrown : MethodName := ⟨RX4, "thrown", "()I"⟩
abbrev cX4_cut : ByteArray := prog_6_method_3_code
def yX4_cut : MethodName := ⟨RX4, "cut", "(JI)J"⟩
abbrev cX4_part : ByteArray := prog_6_method_4_code
def yX4_part : MethodName := ⟨RX4, "part", "(JI)I"⟩
abbrev cX4_order : ByteArray := prog_6_method_5_code
def yX4_order : MethodName := ⟨RX4, "order", "(IJI)I"⟩
abbrev cX4_place : ByteArray := prog_6_method_6_code
def yX4_place : MethodName := ⟨RX4, "place", "(IJI)I"⟩
abbrev cX4_has : ByteArray := prog_6_method_7_code
def yX4_has : MethodName := ⟨RX4, "has", "(IIJI)Z"⟩
abbrev cX4_begins : ByteArray := prog_6_method_8_code
def yX4_begins : MethodName := ⟨RX4, "begins", "(IJI)Z"⟩
abbrev cX4_copy : ByteArray := prog_6_method_9_code
def yX4_copy : MethodName := ⟨RX4, "copy", "(II)V"⟩
abbrev cX4_put : ByteArray := prog_6_method_10_code
def yX4_put : MethodName := ⟨RX4, "put", "(JII)Z"⟩
abbrev cX4_get : ByteArray := prog_6_method_11_code
def yX4_get : MethodName := ⟨RX4, "get", "(JI)I"⟩
abbrev cX4_remove : ByteArray := prog_6_method_12_code
def yX4_remove : MethodName := ⟨RX4, "remove", "(JI)Z"⟩
abbrev cX4_size : ByteArray := prog_6_method_13_code
def yX4_size : MethodName := ⟨RX4, "size", "()I"⟩
abbrev cX4_within : ByteArray := prog_6_method_14_code
def yX4_within : MethodName := ⟨RX4, "within", "(JI)I"⟩
abbrev cX4_rank : ByteArray := prog_6_method_15_code
def yX4_rank : MethodName := ⟨RX4, "rank", "(JI)I"⟩
abbrev cX4_branches : ByteArray := prog_6_method_16_code
def yX4_branches : MethodName := ⟨RX4, "branches", "(JI)I"⟩
abbrev cX4_sizeOf : ByteArray := prog_6_method_17_code
def yX4_sizeOf : MethodName := ⟨RX4, "sizeOf", "(I)I"⟩
abbrev cX4_forks : ByteArray := prog_6_method_18_code
def yX4_forks : MethodName := ⟨RX4, "forks", "(I)I"⟩
abbrev cX4_depth : ByteArray := prog_6_method_19_code
def yX4_depth : MethodName := ⟨RX4, "depth", "(JI)I"⟩
abbrev cX4_isOpen : ByteArray := prog_6_method_20_code
def yX4_isOpen : MethodName := ⟨RX4, "isOpen", "(I)Z"⟩
abbrev cX4_open : ByteArray := prog_6_method_21_code
def yX4_open : MethodName := ⟨RX4, "open", "(I)Z"⟩
abbrev cX4_close : ByteArray := prog_6_method_22_code
def yX4_close : MethodName := ⟨RX4, "close", "(I)Z"⟩
abbrev cX4_seek : ByteArray := prog_6_method_23_code
def yX4_seek : MethodName := ⟨RX4, "seek", "(IJI)Z"⟩
abbrev cX4_next : ByteArray := prog_6_method_24_code
def yX4_next : MethodName := ⟨RX4, "next", "(I)Z"⟩
abbrev cX4_on : ByteArray := prog_6_method_25_code
def yX4_on : MethodName := ⟨RX4, "on", "(I)I"⟩
abbrev cX4_key : ByteArray := prog_6_method_26_code
def yX4_key : MethodName := ⟨RX4, "key", "(I)J"⟩
abbrev cX4_length : ByteArray := prog_6_method_27_code
def yX4_length : MethodName := ⟨RX4, "length", "(I)I"⟩
abbrev cX4_value : ByteArray := prog_6_method_28_code
def yX4_value : MethodName := ⟨RX4, "value", "(I)I"⟩
def RJ6 : String := "java/lang/Integer"
def TJ6 : u_T := fun k => match k with
  | _ => ("", "", "", false)
def tyJ6 : Nat → FieldType := fun k => match k with
  | _ => .int
abbrev wsJ60 : List Cond := u_ws RJ6 TJ6 0
theorem nmJ6 : ∀ a, a < 0 → ∀ b, b < 0 → a ≠ b → (TJ6 a).2.1 ≠ (TJ6 b).2.1 := by decide +kernel
theorem tyJ6_ok : ∀ k, k < 0 → parseFieldDescriptor (TJ6 k).2.2.1 = some (tyJ6 k) := by decide +kernel
abbrev cJ6_numberOfLeadingZeros_0f7a4 : ByteArray := prog_10_method_47_code
def yJ6_numberOfLeadingZeros_0f7a4 : MethodName := ⟨RJ6, "numberOfLeadingZeros", "(I)I"⟩
abbrev cJ6_bitCount_0f7a4 : ByteArray := prog_10_method_49_code
def yJ6_bitCount_0f7a4 : MethodName := ⟨RJ6, "bitCount", "(I)I"⟩
def RJ13 : String := "java/lang/Long"
def TJ13 : u_T := fun k => match k with
  | _ => ("", "", "", false)
def tyJ13 : Nat → FieldType := fun k => match k with
  | _ => .int
abbrev wsJ130 : List Cond := u_ws RJ13 TJ13 0
theorem nmJ13 : ∀ a, a < 0 → ∀ b, b < 0 → a ≠ b → (TJ13 a).2.1 ≠ (TJ13 b).2.1 := by decide +kernel
theorem tyJ13_ok : ∀ k, k < 0 → parseFieldDescriptor (TJ13 k).2.2.1 = some (tyJ13 k) := by decide +kernel
abbrev cJ13_compare_74951 : ByteArray := prog_11_method_42_code
def yJ13_compare_74951 : MethodName := ⟨RJ13, "compare", "(JJ)I"⟩
abbrev cJ13_compareUnsigned_74951 : ByteArray := prog_11_method_43_code
def yJ13_compareUnsigned_74951 : MethodName := ⟨RJ13, "compareUnsigned", "(JJ)I"⟩
abbrev cJ13_numberOfLeadingZeros_95d88 : ByteArray := prog_11_method_48_code
def yJ13_numberOfLeadingZeros_95d88 : MethodName := ⟨RJ13, "numberOfLeadingZeros", "(J)I"⟩
def RJ9 : String := "java/lang/Math"
def TJ9 : u_T := fun k => match k with
  | _ => ("", "", "", false)
def tyJ9 : Nat → FieldType := fun k => match k with
  | _ => .int
abbrev wsJ90 : List Cond := u_ws RJ9 TJ9 0
theorem nmJ9 : ∀ a, a < 0 → ∀ b, b < 0 → a ≠ b → (TJ9 a).2.1 ≠ (TJ9 b).2.1 := by decide +kernel
theorem tyJ9_ok : ∀ k, k < 0 → parseFieldDescriptor (TJ9 k).2.2.1 = some (tyJ9 k) := by decide +kernel
abbrev cJ9_max_7cf53 : ByteArray := prog_12_method_65_code
def yJ9_max_7cf53 : MethodName := ⟨RJ9, "max", "(II)I"⟩
abbrev cJ9_min_7cf53 : ByteArray := prog_12_method_69_code
def yJ9_min_7cf53 : MethodName := ⟨RJ9, "min", "(II)I"⟩
def RJ0 : String := "java/lang/String"
def TJ0 : u_T := fun k => match k with
  | _ => ("", "", "", false)
def tyJ0 : Nat → FieldType := fun k => match k with
  | _ => .int
abbrev wsJ00 : List Cond := u_ws RJ0 TJ0 0
theorem nmJ0 : ∀ a, a < 0 → ∀ b, b < 0 → a ≠ b → (TJ0 a).2.1 ≠ (TJ0 b).2.1 := by decide +kernel
theorem tyJ0_ok : ∀ k, k < 0 → parseFieldDescriptor (TJ0 k).2.2.1 = some (tyJ0 k) := by decide +kernel
def RL : String := "ForkStoreLaw"
abbrev cL_put : ByteArray := method_3_code
def yL_put : MethodName := ⟨RL, "put", "(LForkStore;JII[J)I"⟩
abbrev cL_get : ByteArray := method_4_code
def yL_get : MethodName := ⟨RL, "get", "(LForkStore;JI[J)I"⟩
abbrev cL_seek : ByteArray := method_5_code
def yL_seek : MethodName := ⟨RL, "seek", "(LForkStore;IJI[J)I"⟩
abbrev cL_next : ByteArray := method_6_code
def yL_next : MethodName := ⟨RL, "next", "(LForkStore;I[J)I"⟩
abbrev cL_law : ByteArray := code
def yL_law : MethodName := ⟨RL, "law", "([I)Z"⟩
def wsX0_init : List Cond := .code yX0_init cX0_init 1 none :: ([.methodLink RX0 3 objectInit, .instanceMethod objectInit, .code objectInit ⟨#[0xb1]⟩ 1 none, .arrayClass .int, .fieldLink RX0 9 "ForkStore$ForkCounter" "branches" "[I"] ++ wsX00)
def wsX1_count : List Cond := .code yX1_count cX1_count 1 (some .int) :: ([.fieldLink RX1 22 "ForkStore$Keys" "count" "I"] ++ wsX10)
def wsX1_isPlace : List Cond := .code yX1_isPlace cX1_isPlace 2 (some .boolean) :: ([.fieldLink RX1 22 "ForkStore$Keys" "count" "I"] ++ wsX10)
def wsJ6_numberOfLeadingZeros_0f7a4 : List Cond := .code yJ6_numberOfLeadingZeros_0f7a4 cJ6_numberOfLeadingZeros_0f7a4 2 (some .int) :: ([.constant RJ6 264 (65536)])
def wsJ13_numberOfLeadingZeros_95d88 : List Cond := .code yJ13_numberOfLeadingZeros_95d88 cJ13_numberOfLeadingZeros_95d88 3 (some .int) :: ([.methodLink RJ13 308 yJ6_numberOfLeadingZeros_0f7a4, .static yJ6_numberOfLeadingZeros_0f7a4, .initialized RJ6, .code yJ6_numberOfLeadingZeros_0f7a4 cJ6_numberOfLeadingZeros_0f7a4 2 (some .int), .constant RJ6 264 (65536)])
def wsX3_bytesInCommon : List Cond := .code yX3_bytesInCommon cX3_bytesInCommon 7 (some .int) :: ([.methodLink RX3 141 Lib.Math.min.name, .static Lib.Math.min.name, .initialized "java/lang/Math", .code Lib.Math.min.name Lib.Math.min.code 2 (some .int), .methodLink RX3 135 yJ13_numberOfLeadingZeros_95d88, .static yJ13_numberOfLeadingZeros_95d88, .initialized RJ13, .code yJ13_numberOfLeadingZeros_95d88 cJ13_numberOfLeadingZeros_95d88 3 (some .int), .methodLink RJ13 308 yJ6_numberOfLeadingZeros_0f7a4, .static yJ6_numberOfLeadingZeros_0f7a4, .initialized RJ6, .code yJ6_numberOfLeadingZeros_0f7a4 cJ6_numberOfLeadingZeros_0f7a4 2 (some .int), .constant RJ6 264 (65536)])
def wsX1_forkBehind : List Cond := .code yX1_forkBehind cX1_forkBehind 2 (some .int) :: ([.fieldLink RX1 9 "ForkStore$Keys" "words" "[J", .fieldLink RX1 15 "ForkStore$Keys" "sizes" "[I", .methodLink RX1 26 yX1_isPlace, .instanceMethod yX1_isPlace, .selects RX1 yX1_isPlace yX1_isPlace, .initialized RX1, .code yX1_isPlace cX1_isPlace 2 (some .boolean), .fieldLink RX1 22 "ForkStore$Keys" "count" "I", .static yX3_bytesInCommon, .initialized RX3, .code yX3_bytesInCommon cX3_bytesInCommon 7 (some .int), .methodLink RX3 141 Lib.Math.min.name, .static Lib.Math.min.name, .initialized "java/lang/Math", .code Lib.Math.min.name Lib.Math.min.code 2 (some .int), .methodLink RX3 135 yJ13_numberOfLeadingZeros_95d88, .static yJ13_numberOfLeadingZeros_95d88, .initialized RJ13, .code yJ13_numberOfLeadingZeros_95d88 cJ13_numberOfLeadingZeros_95d88 3 (some .int), .methodLink RJ13 308 yJ6_numberOfLeadingZeros_0f7a4, .static yJ6_numberOfLeadingZeros_0f7a4, .initialized RJ6, .code yJ6_numberOfLeadingZeros_0f7a4 cJ6_numberOfLeadingZeros_0f7a4 2 (some .int), .constant RJ6 264 (65536)] ++ wsX10)
def wsX0_sizeOf : List Cond := .code yX0_sizeOf cX0_sizeOf 1 (some .int) :: ([])
def wsX0_endLongerThan : List Cond := .code yX0_endLongerThan cX0_endLongerThan 5 (some .int) :: ([.methodLink RX0 36 Lib.Math.max.name, .static Lib.Math.max.name, .initialized "java/lang/Math", .code Lib.Math.max.name Lib.Math.max.code 2 (some .int), .fieldLink RX0 9 "ForkStore$ForkCounter" "branches" "[I", .methodLink RX0 41 yX0_sizeOf, .static yX0_sizeOf, .initialized RX0, .code yX0_sizeOf cX0_sizeOf 1 (some .int)] ++ wsX00)
def wsX1_sizeAt : List Cond := .code yX1_sizeAt cX1_sizeAt 2 (some .int) :: ([.fieldLink RX1 15 "ForkStore$Keys" "sizes" "[I", .methodLink RX1 26 yX1_isPlace, .instanceMethod yX1_isPlace, .selects RX1 yX1_isPlace yX1_isPlace, .initialized RX1, .code yX1_isPlace cX1_isPlace 2 (some .boolean), .fieldLink RX1 22 "ForkStore$Keys" "count" "I"] ++ wsX10)
def wsX0_addBranch : List Cond := .code yX0_addBranch cX0_addBranch 4 none :: ([.fieldLink RX0 9 "ForkStore$ForkCounter" "branches" "[I"] ++ wsX00)
def wsX0_countOfSize_r1 : List Cond := [Cond.methodLink RX0 15 yX1_count, Cond.instanceMethod yX1_count, Cond.selects RX1 yX1_count yX1_count, Cond.initialized RX1, Cond.code yX1_count cX1_count 1 (some .int), Cond.fieldLink RX1 22 "ForkStore$Keys" "count" "I", Cond.methodLink RX0 21 yX1_forkBehind, Cond.instanceMethod yX1_forkBehind, Cond.selects RX1 yX1_forkBehind yX1_forkBehind, Cond.code yX1_forkBehind cX1_forkBehind 2 (some .int), Cond.fieldLink RX1 9 "ForkStore$Keys" "words" "[J", Cond.fieldLink RX1 15 "ForkStore$Keys" "sizes" "[I", Cond.methodLink RX1 26 yX1_isPlace, Cond.instanceMethod yX1_isPlace, Cond.selects RX1 yX1_isPlace yX1_isPlace, Cond.code yX1_isPlace cX1_isPlace 2 (some .boolean), Cond.static yX3_bytesInCommon, Cond.initialized RX3, Cond.code yX3_bytesInCommon cX3_bytesInCommon 7 (some .int), Cond.methodLink RX3 141 Lib.Math.min.name, Cond.static Lib.Math.min.name, Cond.initialized "java/lang/Math", Cond.code Lib.Math.min.name Lib.Math.min.code 2 (some .int), Cond.methodLink RX3 135 yJ13_numberOfLeadingZeros_95d88]
def wsX0_countOfSize_r2 : List Cond := [Cond.static yJ13_numberOfLeadingZeros_95d88, Cond.initialized RJ13, Cond.code yJ13_numberOfLeadingZeros_95d88 cJ13_numberOfLeadingZeros_95d88 3 (some .int), Cond.methodLink RJ13 308 yJ6_numberOfLeadingZeros_0f7a4, Cond.static yJ6_numberOfLeadingZeros_0f7a4, Cond.initialized RJ6, Cond.code yJ6_numberOfLeadingZeros_0f7a4 cJ6_numberOfLeadingZeros_0f7a4 2 (some .int), Cond.constant RJ6 264 (65536), Cond.methodLink RX0 25 yX0_endLongerThan, Cond.instanceMethod yX0_endLongerThan, Cond.selects RX0 yX0_endLongerThan yX0_endLongerThan, Cond.initialized RX0, Cond.code yX0_endLongerThan cX0_endLongerThan 5 (some .int), Cond.methodLink RX0 36 Lib.Math.max.name, Cond.static Lib.Math.max.name, Cond.code Lib.Math.max.name Lib.Math.max.code 2 (some .int), Cond.fieldLink RX0 9 "ForkStore$ForkCounter" "branches" "[I", Cond.methodLink RX0 41 yX0_sizeOf, Cond.static yX0_sizeOf, Cond.code yX0_sizeOf cX0_sizeOf 1 (some .int), Cond.methodLink RX0 29 yX1_sizeAt, Cond.instanceMethod yX1_sizeAt, Cond.selects RX1 yX1_sizeAt yX1_sizeAt, Cond.code yX1_sizeAt cX1_sizeAt 2 (some .int)]
def wsX0_countOfSize_r3 : List Cond := [Cond.methodLink RX0 32 yX0_addBranch, Cond.instanceMethod yX0_addBranch, Cond.selects RX0 yX0_addBranch yX0_addBranch, Cond.code yX0_addBranch cX0_addBranch 4 none]
def wsX0_countOfSize : List Cond := .code yX0_countOfSize cX0_countOfSize 6 (some .int) :: ((wsX0_countOfSize_r1 ++ (wsX0_countOfSize_r2 ++ wsX0_countOfSize_r3)) ++ wsX10 ++ wsX00)
def wsX1_init : List Cond := .code yX1_init cX1_init 1 none :: ([.methodLink RX1 3 objectInit, .instanceMethod objectInit, .code objectInit ⟨#[0xb1]⟩ 1 none, .arrayClass .long, .fieldLink RX1 9 "ForkStore$Keys" "words" "[J", .arrayClass .int, .fieldLink RX1 15 "ForkStore$Keys" "sizes" "[I", .fieldLink RX1 19 "ForkStore$Keys" "numbers" "[I", .fieldLink RX1 22 "ForkStore$Keys" "count" "I"] ++ wsX10)
def wsX1_isFull : List Cond := .code yX1_isFull cX1_isFull 1 (some .boolean) :: ([.fieldLink RX1 22 "ForkStore$Keys" "count" "I"] ++ wsX10)
def wsX1_standsAt : List Cond := .code yX1_standsAt cX1_standsAt 5 (some .boolean) :: ([.fieldLink RX1 9 "ForkStore$Keys" "words" "[J", .fieldLink RX1 15 "ForkStore$Keys" "sizes" "[I", .methodLink RX1 26 yX1_isPlace, .instanceMethod yX1_isPlace, .selects RX1 yX1_isPlace yX1_isPlace, .initialized RX1, .code yX1_isPlace cX1_isPlace 2 (some .boolean), .fieldLink RX1 22 "ForkStore$Keys" "count" "I"] ++ wsX10)
def wsX1_wordAt : List Cond := .code yX1_wordAt cX1_wordAt 2 (some .long) :: ([.fieldLink RX1 9 "ForkStore$Keys" "words" "[J", .methodLink RX1 26 yX1_isPlace, .instanceMethod yX1_isPlace, .selects RX1 yX1_isPlace yX1_isPlace, .initialized RX1, .code yX1_isPlace cX1_isPlace 2 (some .boolean), .fieldLink RX1 22 "ForkStore$Keys" "count" "I"] ++ wsX10)
def wsX1_numberAt : List Cond := .code yX1_numberAt cX1_numberAt 2 (some .int) :: ([.fieldLink RX1 19 "ForkStore$Keys" "numbers" "[I", .methodLink RX1 26 yX1_isPlace, .instanceMethod yX1_isPlace, .selects RX1 yX1_isPlace yX1_isPlace, .initialized RX1, .code yX1_isPlace cX1_isPlace 2 (some .boolean), .fieldLink RX1 22 "ForkStore$Keys" "count" "I"] ++ wsX10)
def wsX1_setNumber : List Cond := .code yX1_setNumber cX1_setNumber 3 none :: ([.fieldLink RX1 19 "ForkStore$Keys" "numbers" "[I", .methodLink RX1 26 yX1_isPlace, .instanceMethod yX1_isPlace, .selects RX1 yX1_isPlace yX1_isPlace, .initialized RX1, .code yX1_isPlace cX1_isPlace 2 (some .boolean), .fieldLink RX1 22 "ForkStore$Keys" "count" "I"] ++ wsX10)
def wsJ13_compare_74951 : List Cond := .code yJ13_compare_74951 cJ13_compare_74951 4 (some .int) :: ([])
def wsJ13_compareUnsigned_74951 : List Cond := .code yJ13_compareUnsigned_74951 cJ13_compareUnsigned_74951 4 (some .int) :: ([.constantLong RJ13 168 (-9223372036854775808), .methodLink RJ13 302 yJ13_compare_74951, .static yJ13_compare_74951, .initialized RJ13, .code yJ13_compare_74951 cJ13_compare_74951 4 (some .int)])
def wsX1_countBefore : List Cond := .code yX1_countBefore cX1_countBefore 6 (some .int) :: ([.fieldLink RX1 22 "ForkStore$Keys" "count" "I", .fieldLink RX1 9 "ForkStore$Keys" "words" "[J", .fieldLink RX1 15 "ForkStore$Keys" "sizes" "[I", .methodLink RX1 30 yJ13_compareUnsigned_74951, .static yJ13_compareUnsigned_74951, .initialized RJ13, .code yJ13_compareUnsigned_74951 cJ13_compareUnsigned_74951 4 (some .int), .constantLong RJ13 168 (-9223372036854775808), .methodLink RJ13 302 yJ13_compare_74951, .static yJ13_compare_74951, .code yJ13_compare_74951 cJ13_compare_74951 4 (some .int)] ++ wsX10)
def wsX1_countBeginningWith : List Cond := .code yX1_countBeginningWith cX1_countBeginningWith 6 (some .int) :: ([.fieldLink RX1 22 "ForkStore$Keys" "count" "I", .fieldLink RX1 9 "ForkStore$Keys" "words" "[J", .fieldLink RX1 15 "ForkStore$Keys" "sizes" "[I", .static yX3_bytesInCommon, .initialized RX3, .code yX3_bytesInCommon cX3_bytesInCommon 7 (some .int), .methodLink RX3 141 Lib.Math.min.name, .static Lib.Math.min.name, .initialized "java/lang/Math", .code Lib.Math.min.name Lib.Math.min.code 2 (some .int), .methodLink RX3 135 yJ13_numberOfLeadingZeros_95d88, .static yJ13_numberOfLeadingZeros_95d88, .initialized RJ13, .code yJ13_numberOfLeadingZeros_95d88 cJ13_numberOfLeadingZeros_95d88 3 (some .int), .methodLink RJ13 308 yJ6_numberOfLeadingZeros_0f7a4, .static yJ6_numberOfLeadingZeros_0f7a4, .initialized RJ6, .code yJ6_numberOfLeadingZeros_0f7a4 cJ6_numberOfLeadingZeros_0f7a4 2 (some .int), .constant RJ6 264 (65536)] ++ wsX10)
def wsJ6_bitCount_0f7a4 : List Cond := .code yJ6_bitCount_0f7a4 cJ6_bitCount_0f7a4 1 (some .int) :: ([.constant RJ6 265 (1431655765), .constant RJ6 266 (858993459), .constant RJ6 267 (252645135)])
def wsX1_countForksOnTheWayTo_r1 : List Cond := [Cond.fieldLink RX1 22 "ForkStore$Keys" "count" "I", Cond.fieldLink RX1 9 "ForkStore$Keys" "words" "[J", Cond.fieldLink RX1 15 "ForkStore$Keys" "sizes" "[I", Cond.methodLink RX1 40 yX1_forkBehind, Cond.instanceMethod yX1_forkBehind, Cond.selects RX1 yX1_forkBehind yX1_forkBehind, Cond.initialized RX1, Cond.code yX1_forkBehind cX1_forkBehind 2 (some .int), Cond.methodLink RX1 26 yX1_isPlace, Cond.instanceMethod yX1_isPlace, Cond.selects RX1 yX1_isPlace yX1_isPlace, Cond.code yX1_isPlace cX1_isPlace 2 (some .boolean), Cond.static yX3_bytesInCommon, Cond.initialized RX3, Cond.code yX3_bytesInCommon cX3_bytesInCommon 7 (some .int), Cond.methodLink RX3 141 Lib.Math.min.name, Cond.static Lib.Math.min.name, Cond.initialized "java/lang/Math", Cond.code Lib.Math.min.name Lib.Math.min.code 2 (some .int), Cond.methodLink RX3 135 yJ13_numberOfLeadingZeros_95d88, Cond.static yJ13_numberOfLeadingZeros_95d88, Cond.initialized RJ13, Cond.code yJ13_numberOfLeadingZeros_95d88 cJ13_numberOfLeadingZeros_95d88 3 (some .int), Cond.methodLink RJ13 308 yJ6_numberOfLeadingZeros_0f7a4]
def wsX1_countForksOnTheWayTo_r2 : List Cond := [Cond.static yJ6_numberOfLeadingZeros_0f7a4, Cond.initialized RJ6, Cond.code yJ6_numberOfLeadingZeros_0f7a4 cJ6_numberOfLeadingZeros_0f7a4 2 (some .int), Cond.constant RJ6 264 (65536), Cond.methodLink RX1 44 yJ6_bitCount_0f7a4, Cond.static yJ6_bitCount_0f7a4, Cond.code yJ6_bitCount_0f7a4 cJ6_bitCount_0f7a4 1 (some .int), Cond.constant RJ6 265 (1431655765), Cond.constant RJ6 266 (858993459), Cond.constant RJ6 267 (252645135)]
def wsX1_countForksOnTheWayTo : List Cond := .code yX1_countForksOnTheWayTo cX1_countForksOnTheWayTo 7 (some .int) :: ((wsX1_countForksOnTheWayTo_r1 ++ wsX1_countForksOnTheWayTo_r2) ++ wsX10)
def wsX1_insert : List Cond := .code yX1_insert cX1_insert 7 none :: ([.fieldLink RX1 22 "ForkStore$Keys" "count" "I", .fieldLink RX1 9 "ForkStore$Keys" "words" "[J", .fieldLink RX1 15 "ForkStore$Keys" "sizes" "[I", .fieldLink RX1 19 "ForkStore$Keys" "numbers" "[I", .methodLink RX1 49 yX1_isFull, .instanceMethod yX1_isFull, .selects RX1 yX1_isFull yX1_isFull, .initialized RX1, .code yX1_isFull cX1_isFull 1 (some .boolean)] ++ wsX10)
def wsX1_takeOut : List Cond := .code yX1_takeOut cX1_takeOut 3 none :: ([.fieldLink RX1 22 "ForkStore$Keys" "count" "I", .fieldLink RX1 9 "ForkStore$Keys" "words" "[J", .fieldLink RX1 15 "ForkStore$Keys" "sizes" "[I", .fieldLink RX1 19 "ForkStore$Keys" "numbers" "[I", .methodLink RX1 26 yX1_isPlace, .instanceMethod yX1_isPlace, .selects RX1 yX1_isPlace yX1_isPlace, .initialized RX1, .code yX1_isPlace cX1_isPlace 2 (some .boolean)] ++ wsX10)
def wsX1_copyFrom : List Cond := .code yX1_copyFrom cX1_copyFrom 3 none :: ([.fieldLink RX1 22 "ForkStore$Keys" "count" "I", .fieldLink RX1 9 "ForkStore$Keys" "words" "[J", .fieldLink RX1 15 "ForkStore$Keys" "sizes" "[I", .fieldLink RX1 19 "ForkStore$Keys" "numbers" "[I"] ++ wsX10)
def wsX2_init : List Cond := .code yX2_init cX2_init 1 none :: ([.methodLink RX2 3 objectInit, .instanceMethod objectInit, .code objectInit ⟨#[0xb1]⟩ 1 none, .classLink RX2 9 RX1, .instantiable RX1 4, .initialized RX1, .fieldLink RX2 12 "ForkStore$Reader" "seen" "LForkStore$Keys;", .fieldLink RX2 18 "ForkStore$Reader" "isOpen" "Z", .fieldLink RX2 22 "ForkStore$Reader" "place" "I", .instanceMethod yX1_init, .code yX1_init cX1_init 1 none, .methodLink RX1 3 objectInit, .arrayClass .long, .fieldLink RX1 9 "ForkStore$Keys" "words" "[J", .arrayClass .int, .fieldLink RX1 15 "ForkStore$Keys" "sizes" "[I", .fieldLink RX1 19 "ForkStore$Keys" "numbers" "[I", .fieldLink RX1 22 "ForkStore$Keys" "count" "I"] ++ wsX10 ++ wsX20)
def wsX2_isOpen : List Cond := .code yX2_isOpen cX2_isOpen 1 (some .boolean) :: ([.fieldLink RX2 18 "ForkStore$Reader" "isOpen" "Z"] ++ wsX20)
def wsX2_begin : List Cond := .code yX2_begin cX2_begin 2 none :: ([.fieldLink RX2 12 "ForkStore$Reader" "seen" "LForkStore$Keys;", .fieldLink RX2 22 "ForkStore$Reader" "place" "I", .fieldLink RX2 18 "ForkStore$Reader" "isOpen" "Z", .methodLink RX2 26 yX1_copyFrom, .instanceMethod yX1_copyFrom, .selects RX1 yX1_copyFrom yX1_copyFrom, .initialized RX1, .code yX1_copyFrom cX1_copyFrom 3 none, .fieldLink RX1 22 "ForkStore$Keys" "count" "I", .fieldLink RX1 9 "ForkStore$Keys" "words" "[J", .fieldLink RX1 15 "ForkStore$Keys" "sizes" "[I", .fieldLink RX1 19 "ForkStore$Keys" "numbers" "[I"] ++ wsX20 ++ wsX10)
def wsX2_end : List Cond := .code yX2_end cX2_end 1 none :: ([.fieldLink RX2 18 "ForkStore$Reader" "isOpen" "Z"] ++ wsX20)
def wsX2_goToOrBehind : List Cond := .code yX2_goToOrBehind cX2_goToOrBehind 4 (some .boolean) :: ([.fieldLink RX2 12 "ForkStore$Reader" "seen" "LForkStore$Keys;", .fieldLink RX2 22 "ForkStore$Reader" "place" "I", .methodLink RX2 30 yX1_countBefore, .instanceMethod yX1_countBefore, .selects RX1 yX1_countBefore yX1_countBefore, .initialized RX1, .code yX1_countBefore cX1_countBefore 6 (some .int), .fieldLink RX1 22 "ForkStore$Keys" "count" "I", .fieldLink RX1 9 "ForkStore$Keys" "words" "[J", .fieldLink RX1 15 "ForkStore$Keys" "sizes" "[I", .methodLink RX1 30 yJ13_compareUnsigned_74951, .static yJ13_compareUnsigned_74951, .initialized RJ13, .code yJ13_compareUnsigned_74951 cJ13_compareUnsigned_74951 4 (some .int), .constantLong RJ13 168 (-9223372036854775808), .methodLink RJ13 302 yJ13_compare_74951, .static yJ13_compare_74951, .code yJ13_compare_74951 cJ13_compare_74951 4 (some .int), .methodLink RX2 34 yX1_isPlace, .instanceMethod yX1_isPlace, .selects RX1 yX1_isPlace yX1_isPlace, .code yX1_isPlace cX1_isPlace 2 (some .boolean)] ++ wsX20 ++ wsX10)
def wsX2_goOn : List Cond := .code yX2_goOn cX2_goOn 1 (some .boolean) :: ([.fieldLink RX2 22 "ForkStore$Reader" "place" "I", .fieldLink RX2 12 "ForkStore$Reader" "seen" "LForkStore$Keys;", .methodLink RX2 42 Lib.Math.min.name, .static Lib.Math.min.name, .initialized "java/lang/Math", .code Lib.Math.min.name Lib.Math.min.code 2 (some .int), .methodLink RX2 38 yX1_count, .instanceMethod yX1_count, .selects RX1 yX1_count yX1_count, .initialized RX1, .code yX1_count cX1_count 1 (some .int), .fieldLink RX1 22 "ForkStore$Keys" "count" "I", .methodLink RX2 34 yX1_isPlace, .instanceMethod yX1_isPlace, .selects RX1 yX1_isPlace yX1_isPlace, .code yX1_isPlace cX1_isPlace 2 (some .boolean)] ++ wsX20 ++ wsX10)
def wsX2_bytesHere : List Cond := .code yX2_bytesHere cX2_bytesHere 1 (some .long) :: ([.fieldLink RX2 12 "ForkStore$Reader" "seen" "LForkStore$Keys;", .fieldLink RX2 22 "ForkStore$Reader" "place" "I", .methodLink RX2 48 yX1_wordAt, .instanceMethod yX1_wordAt, .selects RX1 yX1_wordAt yX1_wordAt, .initialized RX1, .code yX1_wordAt cX1_wordAt 2 (some .long), .fieldLink RX1 9 "ForkStore$Keys" "words" "[J", .methodLink RX1 26 yX1_isPlace, .instanceMethod yX1_isPlace, .selects RX1 yX1_isPlace yX1_isPlace, .code yX1_isPlace cX1_isPlace 2 (some .boolean), .fieldLink RX1 22 "ForkStore$Keys" "count" "I"] ++ wsX20 ++ wsX10)
def wsX2_sizeHere : List Cond := .code yX2_sizeHere cX2_sizeHere 1 (some .int) :: ([.fieldLink RX2 12 "ForkStore$Reader" "seen" "LForkStore$Keys;", .fieldLink RX2 22 "ForkStore$Reader" "place" "I", .methodLink RX2 52 yX1_sizeAt, .instanceMethod yX1_sizeAt, .selects RX1 yX1_sizeAt yX1_sizeAt, .initialized RX1, .code yX1_sizeAt cX1_sizeAt 2 (some .int), .fieldLink RX1 15 "ForkStore$Keys" "sizes" "[I", .methodLink RX1 26 yX1_isPlace, .instanceMethod yX1_isPlace, .selects RX1 yX1_isPlace yX1_isPlace, .code yX1_isPlace cX1_isPlace 2 (some .boolean), .fieldLink RX1 22 "ForkStore$Keys" "count" "I"] ++ wsX20 ++ wsX10)
def wsX2_numberHere : List Cond := .code yX2_numberHere cX2_numberHere 1 (some .int) :: ([.fieldLink RX2 12 "ForkStore$Reader" "seen" "LForkStore$Keys;", .fieldLink RX2 22 "ForkStore$Reader" "place" "I", .methodLink RX2 56 yX1_numberAt, .instanceMethod yX1_numberAt, .selects RX1 yX1_numberAt yX1_numberAt, .initialized RX1, .code yX1_numberAt cX1_numberAt 2 (some .int), .fieldLink RX1 19 "ForkStore$Keys" "numbers" "[I", .methodLink RX1 26 yX1_isPlace, .instanceMethod yX1_isPlace, .selects RX1 yX1_isPlace yX1_isPlace, .code yX1_isPlace cX1_isPlace 2 (some .boolean), .fieldLink RX1 22 "ForkStore$Keys" "count" "I"] ++ wsX20 ++ wsX10)
def wsX3_init_r1 : List Cond := [Cond.methodLink RX3 1 objectInit, Cond.instanceMethod objectInit, Cond.code objectInit ⟨#[0xb1]⟩ 1 none, Cond.classLink RX3 7 RX1, Cond.instantiable RX1 4, Cond.initialized RX1, Cond.fieldLink RX3 10 "ForkStore" "keys" "LForkStore$Keys;", Cond.classLink RX3 16 RX0, Cond.instantiable RX0 1, Cond.initialized RX0, Cond.fieldLink RX3 19 "ForkStore" "counter" "LForkStore$ForkCounter;", Cond.classLink RX3 23 RX2, Cond.fieldLink RX3 25 "ForkStore" "readers" "[LForkStore$Reader;", Cond.instantiable RX2 3, Cond.initialized RX2, Cond.instanceMethod yX1_init, Cond.code yX1_init cX1_init 1 none, Cond.methodLink RX1 3 objectInit, Cond.arrayClass .long, Cond.fieldLink RX1 9 "ForkStore$Keys" "words" "[J", Cond.arrayClass .int, Cond.fieldLink RX1 15 "ForkStore$Keys" "sizes" "[I", Cond.fieldLink RX1 19 "ForkStore$Keys" "numbers" "[I", Cond.fieldLink RX1 22 "ForkStore$Keys" "count" "I"]
def wsX3_init_r2 : List Cond := [Cond.instanceMethod yX0_init, Cond.code yX0_init cX0_init 1 none, Cond.methodLink RX0 3 objectInit, Cond.fieldLink RX0 9 "ForkStore$ForkCounter" "branches" "[I", Cond.instanceMethod yX2_init, Cond.code yX2_init cX2_init 1 none, Cond.methodLink RX2 3 objectInit, Cond.classLink RX2 9 RX1, Cond.fieldLink RX2 12 "ForkStore$Reader" "seen" "LForkStore$Keys;", Cond.fieldLink RX2 18 "ForkStore$Reader" "isOpen" "Z", Cond.fieldLink RX2 22 "ForkStore$Reader" "place" "I"]
def wsX3_init : List Cond := .code yX3_init cX3_init 2 none :: ((wsX3_init_r1 ++ wsX3_init_r2) ++ wsX10 ++ wsX30 ++ wsX00 ++ wsX20)
def wsX3_isKeySize : List Cond := .code yX3_isKeySize cX3_isKeySize 1 (some .boolean) :: ([])
def wsX3_highestBytes : List Cond := .code yX3_highestBytes cX3_highestBytes 3 (some .long) :: ([.constantLong RX3 133 (-1)])
def wsX3_put_r1 : List Cond := [Cond.classLink RX3 34 "java/lang/IllegalArgumentException", Cond.initialized "java/lang/IllegalArgumentException", Cond.classLink RX3 61 "java/lang/IllegalStateException", Cond.initialized "java/lang/IllegalStateException", Cond.fieldLink RX3 10 "ForkStore" "keys" "LForkStore$Keys;", Cond.methodLink RX3 30 yX3_isKeySize, Cond.static yX3_isKeySize, Cond.initialized RX3, Cond.code yX3_isKeySize cX3_isKeySize 1 (some .boolean), Cond.methodLink RX3 41 yX3_highestBytes, Cond.static yX3_highestBytes, Cond.code yX3_highestBytes cX3_highestBytes 3 (some .long), Cond.constantLong RX3 133 (-1), Cond.methodLink RX3 45 yX1_countBefore, Cond.instanceMethod yX1_countBefore, Cond.selects RX1 yX1_countBefore yX1_countBefore, Cond.initialized RX1, Cond.code yX1_countBefore cX1_countBefore 6 (some .int), Cond.fieldLink RX1 22 "ForkStore$Keys" "count" "I", Cond.fieldLink RX1 9 "ForkStore$Keys" "words" "[J", Cond.fieldLink RX1 15 "ForkStore$Keys" "sizes" "[I", Cond.methodLink RX1 30 yJ13_compareUnsigned_74951, Cond.static yJ13_compareUnsigned_74951, Cond.initialized RJ13]
def wsX3_put_r2 : List Cond := [Cond.code yJ13_compareUnsigned_74951 cJ13_compareUnsigned_74951 4 (some .int), Cond.constantLong RJ13 168 (-9223372036854775808), Cond.methodLink RJ13 302 yJ13_compare_74951, Cond.static yJ13_compare_74951, Cond.code yJ13_compare_74951 cJ13_compare_74951 4 (some .int), Cond.methodLink RX3 49 yX1_standsAt, Cond.instanceMethod yX1_standsAt, Cond.selects RX1 yX1_standsAt yX1_standsAt, Cond.code yX1_standsAt cX1_standsAt 5 (some .boolean), Cond.methodLink RX1 26 yX1_isPlace, Cond.instanceMethod yX1_isPlace, Cond.selects RX1 yX1_isPlace yX1_isPlace, Cond.code yX1_isPlace cX1_isPlace 2 (some .boolean), Cond.methodLink RX3 53 yX1_setNumber, Cond.instanceMethod yX1_setNumber, Cond.selects RX1 yX1_setNumber yX1_setNumber, Cond.code yX1_setNumber cX1_setNumber 3 none, Cond.fieldLink RX1 19 "ForkStore$Keys" "numbers" "[I", Cond.methodLink RX3 57 yX1_isFull, Cond.instanceMethod yX1_isFull, Cond.selects RX1 yX1_isFull yX1_isFull, Cond.code yX1_isFull cX1_isFull 1 (some .boolean), Cond.methodLink RX3 66 yX1_insert, Cond.instanceMethod yX1_insert]
def wsX3_put_r3 : List Cond := [Cond.selects RX1 yX1_insert yX1_insert, Cond.code yX1_insert cX1_insert 7 none, Cond.methodLink RX1 49 yX1_isFull]
def wsX3_put : List Cond := .code yX3_put cX3_put 8 (some .boolean) :: ((wsX3_put_r1 ++ (wsX3_put_r2 ++ wsX3_put_r3)) ++ wsX30 ++ wsX10 ++ (vx_atS RX3 38 "java/lang/IllegalArgumentException" ["java/lang/RuntimeException", "java/lang/Exception"]).filter goodWord ++ (vx_atS RX3 65 "java/lang/IllegalStateException" ["java/lang/RuntimeException", "java/lang/Exception"]).filter goodWord)
def wsX3_get_r1 : List Cond := [Cond.classLink RX3 34 "java/lang/IllegalArgumentException", Cond.initialized "java/lang/IllegalArgumentException", Cond.classLink RX3 70 "java/util/NoSuchElementException", Cond.initialized "java/util/NoSuchElementException", Cond.fieldLink RX3 10 "ForkStore" "keys" "LForkStore$Keys;", Cond.methodLink RX3 30 yX3_isKeySize, Cond.static yX3_isKeySize, Cond.initialized RX3, Cond.code yX3_isKeySize cX3_isKeySize 1 (some .boolean), Cond.methodLink RX3 41 yX3_highestBytes, Cond.static yX3_highestBytes, Cond.code yX3_highestBytes cX3_highestBytes 3 (some .long), Cond.constantLong RX3 133 (-1), Cond.methodLink RX3 45 yX1_countBefore, Cond.instanceMethod yX1_countBefore, Cond.selects RX1 yX1_countBefore yX1_countBefore, Cond.initialized RX1, Cond.code yX1_countBefore cX1_countBefore 6 (some .int), Cond.fieldLink RX1 22 "ForkStore$Keys" "count" "I", Cond.fieldLink RX1 9 "ForkStore$Keys" "words" "[J", Cond.fieldLink RX1 15 "ForkStore$Keys" "sizes" "[I", Cond.methodLink RX1 30 yJ13_compareUnsigned_74951, Cond.static yJ13_compareUnsigned_74951, Cond.initialized RJ13]
def wsX3_get_r2 : List Cond := [Cond.code yJ13_compareUnsigned_74951 cJ13_compareUnsigned_74951 4 (some .int), Cond.constantLong RJ13 168 (-9223372036854775808), Cond.methodLink RJ13 302 yJ13_compare_74951, Cond.static yJ13_compare_74951, Cond.code yJ13_compare_74951 cJ13_compare_74951 4 (some .int), Cond.methodLink RX3 49 yX1_standsAt, Cond.instanceMethod yX1_standsAt, Cond.selects RX1 yX1_standsAt yX1_standsAt, Cond.code yX1_standsAt cX1_standsAt 5 (some .boolean), Cond.methodLink RX1 26 yX1_isPlace, Cond.instanceMethod yX1_isPlace, Cond.selects RX1 yX1_isPlace yX1_isPlace, Cond.code yX1_isPlace cX1_isPlace 2 (some .boolean), Cond.methodLink RX3 75 yX1_numberAt, Cond.instanceMethod yX1_numberAt, Cond.selects RX1 yX1_numberAt yX1_numberAt, Cond.code yX1_numberAt cX1_numberAt 2 (some .int), Cond.fieldLink RX1 19 "ForkStore$Keys" "numbers" "[I"]
def wsX3_get : List Cond := .code yX3_get cX3_get 7 (some .int) :: ((wsX3_get_r1 ++ wsX3_get_r2) ++ wsX30 ++ wsX10 ++ (vx_atS RX3 38 "java/lang/IllegalArgumentException" ["java/lang/RuntimeException", "java/lang/Exception"]).filter goodWord ++ (vx_atS RX3 74 "java/util/NoSuchElementException" ["java/lang/RuntimeException", "java/lang/Exception"]).filter goodWord)
def wsX3_remove_r1 : List Cond := [Cond.fieldLink RX3 10 "ForkStore" "keys" "LForkStore$Keys;", Cond.methodLink RX3 30 yX3_isKeySize, Cond.static yX3_isKeySize, Cond.initialized RX3, Cond.code yX3_isKeySize cX3_isKeySize 1 (some .boolean), Cond.methodLink RX3 41 yX3_highestBytes, Cond.static yX3_highestBytes, Cond.code yX3_highestBytes cX3_highestBytes 3 (some .long), Cond.constantLong RX3 133 (-1), Cond.methodLink RX3 45 yX1_countBefore, Cond.instanceMethod yX1_countBefore, Cond.selects RX1 yX1_countBefore yX1_countBefore, Cond.initialized RX1, Cond.code yX1_countBefore cX1_countBefore 6 (some .int), Cond.fieldLink RX1 22 "ForkStore$Keys" "count" "I", Cond.fieldLink RX1 9 "ForkStore$Keys" "words" "[J", Cond.fieldLink RX1 15 "ForkStore$Keys" "sizes" "[I", Cond.methodLink RX1 30 yJ13_compareUnsigned_74951, Cond.static yJ13_compareUnsigned_74951, Cond.initialized RJ13, Cond.code yJ13_compareUnsigned_74951 cJ13_compareUnsigned_74951 4 (some .int), Cond.constantLong RJ13 168 (-9223372036854775808), Cond.methodLink RJ13 302 yJ13_compare_74951, Cond.static yJ13_compare_74951]
def wsX3_remove_r2 : List Cond := [Cond.code yJ13_compare_74951 cJ13_compare_74951 4 (some .int), Cond.methodLink RX3 49 yX1_standsAt, Cond.instanceMethod yX1_standsAt, Cond.selects RX1 yX1_standsAt yX1_standsAt, Cond.code yX1_standsAt cX1_standsAt 5 (some .boolean), Cond.methodLink RX1 26 yX1_isPlace, Cond.instanceMethod yX1_isPlace, Cond.selects RX1 yX1_isPlace yX1_isPlace, Cond.code yX1_isPlace cX1_isPlace 2 (some .boolean), Cond.methodLink RX3 79 yX1_takeOut, Cond.instanceMethod yX1_takeOut, Cond.selects RX1 yX1_takeOut yX1_takeOut, Cond.code yX1_takeOut cX1_takeOut 3 none, Cond.fieldLink RX1 19 "ForkStore$Keys" "numbers" "[I"]
def wsX3_remove : List Cond := .code yX3_remove cX3_remove 7 (some .boolean) :: ((wsX3_remove_r1 ++ wsX3_remove_r2) ++ wsX30 ++ wsX10)
def wsX3_size : List Cond := .code yX3_size cX3_size 1 (some .int) :: ([.fieldLink RX3 10 "ForkStore" "keys" "LForkStore$Keys;", .methodLink RX3 83 yX1_count, .instanceMethod yX1_count, .selects RX1 yX1_count yX1_count, .initialized RX1, .code yX1_count cX1_count 1 (some .int), .fieldLink RX1 22 "ForkStore$Keys" "count" "I"] ++ wsX30 ++ wsX10)
def wsX3_within_r1 : List Cond := [Cond.fieldLink RX3 10 "ForkStore" "keys" "LForkStore$Keys;", Cond.methodLink RX3 30 yX3_isKeySize, Cond.static yX3_isKeySize, Cond.initialized RX3, Cond.code yX3_isKeySize cX3_isKeySize 1 (some .boolean), Cond.methodLink RX3 41 yX3_highestBytes, Cond.static yX3_highestBytes, Cond.code yX3_highestBytes cX3_highestBytes 3 (some .long), Cond.constantLong RX3 133 (-1), Cond.methodLink RX3 87 yX1_countBeginningWith, Cond.instanceMethod yX1_countBeginningWith, Cond.selects RX1 yX1_countBeginningWith yX1_countBeginningWith, Cond.initialized RX1, Cond.code yX1_countBeginningWith cX1_countBeginningWith 6 (some .int), Cond.fieldLink RX1 22 "ForkStore$Keys" "count" "I", Cond.fieldLink RX1 9 "ForkStore$Keys" "words" "[J", Cond.fieldLink RX1 15 "ForkStore$Keys" "sizes" "[I", Cond.static yX3_bytesInCommon, Cond.code yX3_bytesInCommon cX3_bytesInCommon 7 (some .int), Cond.methodLink RX3 141 Lib.Math.min.name, Cond.static Lib.Math.min.name, Cond.initialized "java/lang/Math", Cond.code Lib.Math.min.name Lib.Math.min.code 2 (some .int), Cond.methodLink RX3 135 yJ13_numberOfLeadingZeros_95d88]
def wsX3_within_r2 : List Cond := [Cond.static yJ13_numberOfLeadingZeros_95d88, Cond.initialized RJ13, Cond.code yJ13_numberOfLeadingZeros_95d88 cJ13_numberOfLeadingZeros_95d88 3 (some .int), Cond.methodLink RJ13 308 yJ6_numberOfLeadingZeros_0f7a4, Cond.static yJ6_numberOfLeadingZeros_0f7a4, Cond.initialized RJ6, Cond.code yJ6_numberOfLeadingZeros_0f7a4 cJ6_numberOfLeadingZeros_0f7a4 2 (some .int), Cond.constant RJ6 264 (65536)]
def wsX3_within : List Cond := .code yX3_within cX3_within 4 (some .int) :: ((wsX3_within_r1 ++ wsX3_within_r2) ++ wsX30 ++ wsX10)
def wsX3_rank_r1 : List Cond := [Cond.fieldLink RX3 10 "ForkStore" "keys" "LForkStore$Keys;", Cond.methodLink RX3 30 yX3_isKeySize, Cond.static yX3_isKeySize, Cond.initialized RX3, Cond.code yX3_isKeySize cX3_isKeySize 1 (some .boolean), Cond.methodLink RX3 41 yX3_highestBytes, Cond.static yX3_highestBytes, Cond.code yX3_highestBytes cX3_highestBytes 3 (some .long), Cond.constantLong RX3 133 (-1), Cond.methodLink RX3 45 yX1_countBefore, Cond.instanceMethod yX1_countBefore, Cond.selects RX1 yX1_countBefore yX1_countBefore, Cond.initialized RX1, Cond.code yX1_countBefore cX1_countBefore 6 (some .int), Cond.fieldLink RX1 22 "ForkStore$Keys" "count" "I", Cond.fieldLink RX1 9 "ForkStore$Keys" "words" "[J", Cond.fieldLink RX1 15 "ForkStore$Keys" "sizes" "[I", Cond.methodLink RX1 30 yJ13_compareUnsigned_74951, Cond.static yJ13_compareUnsigned_74951, Cond.initialized RJ13, Cond.code yJ13_compareUnsigned_74951 cJ13_compareUnsigned_74951 4 (some .int), Cond.constantLong RJ13 168 (-9223372036854775808), Cond.methodLink RJ13 302 yJ13_compare_74951, Cond.static yJ13_compare_74951]
def wsX3_rank_r2 : List Cond := [Cond.code yJ13_compare_74951 cJ13_compare_74951 4 (some .int)]
def wsX3_rank : List Cond := .code yX3_rank cX3_rank 4 (some .int) :: ((wsX3_rank_r1 ++ wsX3_rank_r2) ++ wsX30 ++ wsX10)
def wsX3_forks_r1 : List Cond := [Cond.fieldLink RX3 19 "ForkStore" "counter" "LForkStore$ForkCounter;", Cond.fieldLink RX3 10 "ForkStore" "keys" "LForkStore$Keys;", Cond.methodLink RX3 90 yX0_countOfSize, Cond.instanceMethod yX0_countOfSize, Cond.selects RX0 yX0_countOfSize yX0_countOfSize, Cond.initialized RX0, Cond.code yX0_countOfSize cX0_countOfSize 6 (some .int), Cond.methodLink RX0 15 yX1_count, Cond.instanceMethod yX1_count, Cond.selects RX1 yX1_count yX1_count, Cond.initialized RX1, Cond.code yX1_count cX1_count 1 (some .int), Cond.fieldLink RX1 22 "ForkStore$Keys" "count" "I", Cond.methodLink RX0 21 yX1_forkBehind, Cond.instanceMethod yX1_forkBehind, Cond.selects RX1 yX1_forkBehind yX1_forkBehind, Cond.code yX1_forkBehind cX1_forkBehind 2 (some .int), Cond.fieldLink RX1 9 "ForkStore$Keys" "words" "[J", Cond.fieldLink RX1 15 "ForkStore$Keys" "sizes" "[I", Cond.methodLink RX1 26 yX1_isPlace, Cond.instanceMethod yX1_isPlace, Cond.selects RX1 yX1_isPlace yX1_isPlace, Cond.code yX1_isPlace cX1_isPlace 2 (some .boolean), Cond.static yX3_bytesInCommon]
def wsX3_forks_r2 : List Cond := [Cond.initialized RX3, Cond.code yX3_bytesInCommon cX3_bytesInCommon 7 (some .int), Cond.methodLink RX3 141 Lib.Math.min.name, Cond.static Lib.Math.min.name, Cond.initialized "java/lang/Math", Cond.code Lib.Math.min.name Lib.Math.min.code 2 (some .int), Cond.methodLink RX3 135 yJ13_numberOfLeadingZeros_95d88, Cond.static yJ13_numberOfLeadingZeros_95d88, Cond.initialized RJ13, Cond.code yJ13_numberOfLeadingZeros_95d88 cJ13_numberOfLeadingZeros_95d88 3 (some .int), Cond.methodLink RJ13 308 yJ6_numberOfLeadingZeros_0f7a4, Cond.static yJ6_numberOfLeadingZeros_0f7a4, Cond.initialized RJ6, Cond.code yJ6_numberOfLeadingZeros_0f7a4 cJ6_numberOfLeadingZeros_0f7a4 2 (some .int), Cond.constant RJ6 264 (65536), Cond.methodLink RX0 25 yX0_endLongerThan, Cond.instanceMethod yX0_endLongerThan, Cond.selects RX0 yX0_endLongerThan yX0_endLongerThan, Cond.code yX0_endLongerThan cX0_endLongerThan 5 (some .int), Cond.methodLink RX0 36 Lib.Math.max.name, Cond.static Lib.Math.max.name, Cond.code Lib.Math.max.name Lib.Math.max.code 2 (some .int), Cond.fieldLink RX0 9 "ForkStore$ForkCounter" "branches" "[I", Cond.methodLink RX0 41 yX0_sizeOf]
def wsX3_forks_r3 : List Cond := [Cond.static yX0_sizeOf, Cond.code yX0_sizeOf cX0_sizeOf 1 (some .int), Cond.methodLink RX0 29 yX1_sizeAt, Cond.instanceMethod yX1_sizeAt, Cond.selects RX1 yX1_sizeAt yX1_sizeAt, Cond.code yX1_sizeAt cX1_sizeAt 2 (some .int), Cond.methodLink RX0 32 yX0_addBranch, Cond.instanceMethod yX0_addBranch, Cond.selects RX0 yX0_addBranch yX0_addBranch, Cond.code yX0_addBranch cX0_addBranch 4 none]
def wsX3_forks : List Cond := .code yX3_forks cX3_forks 2 (some .int) :: ((wsX3_forks_r1 ++ (wsX3_forks_r2 ++ wsX3_forks_r3)) ++ wsX30 ++ wsX10 ++ wsX00)
def wsX3_depth_r1 : List Cond := [Cond.fieldLink RX3 10 "ForkStore" "keys" "LForkStore$Keys;", Cond.methodLink RX3 30 yX3_isKeySize, Cond.static yX3_isKeySize, Cond.initialized RX3, Cond.code yX3_isKeySize cX3_isKeySize 1 (some .boolean), Cond.methodLink RX3 41 yX3_highestBytes, Cond.static yX3_highestBytes, Cond.code yX3_highestBytes cX3_highestBytes 3 (some .long), Cond.constantLong RX3 133 (-1), Cond.methodLink RX3 94 yX1_countForksOnTheWayTo, Cond.instanceMethod yX1_countForksOnTheWayTo, Cond.selects RX1 yX1_countForksOnTheWayTo yX1_countForksOnTheWayTo, Cond.initialized RX1, Cond.code yX1_countForksOnTheWayTo cX1_countForksOnTheWayTo 7 (some .int), Cond.fieldLink RX1 22 "ForkStore$Keys" "count" "I", Cond.fieldLink RX1 9 "ForkStore$Keys" "words" "[J", Cond.fieldLink RX1 15 "ForkStore$Keys" "sizes" "[I", Cond.methodLink RX1 40 yX1_forkBehind, Cond.instanceMethod yX1_forkBehind, Cond.selects RX1 yX1_forkBehind yX1_forkBehind, Cond.code yX1_forkBehind cX1_forkBehind 2 (some .int), Cond.methodLink RX1 26 yX1_isPlace, Cond.instanceMethod yX1_isPlace, Cond.selects RX1 yX1_isPlace yX1_isPlace]
def wsX3_depth_r2 : List Cond := [Cond.code yX1_isPlace cX1_isPlace 2 (some .boolean), Cond.static yX3_bytesInCommon, Cond.code yX3_bytesInCommon cX3_bytesInCommon 7 (some .int), Cond.methodLink RX3 141 Lib.Math.min.name, Cond.static Lib.Math.min.name, Cond.initialized "java/lang/Math", Cond.code Lib.Math.min.name Lib.Math.min.code 2 (some .int), Cond.methodLink RX3 135 yJ13_numberOfLeadingZeros_95d88, Cond.static yJ13_numberOfLeadingZeros_95d88, Cond.initialized RJ13, Cond.code yJ13_numberOfLeadingZeros_95d88 cJ13_numberOfLeadingZeros_95d88 3 (some .int), Cond.methodLink RJ13 308 yJ6_numberOfLeadingZeros_0f7a4, Cond.static yJ6_numberOfLeadingZeros_0f7a4, Cond.initialized RJ6, Cond.code yJ6_numberOfLeadingZeros_0f7a4 cJ6_numberOfLeadingZeros_0f7a4 2 (some .int), Cond.constant RJ6 264 (65536), Cond.methodLink RX1 44 yJ6_bitCount_0f7a4, Cond.static yJ6_bitCount_0f7a4, Cond.code yJ6_bitCount_0f7a4 cJ6_bitCount_0f7a4 1 (some .int), Cond.constant RJ6 265 (1431655765), Cond.constant RJ6 266 (858993459), Cond.constant RJ6 267 (252645135)]
def wsX3_depth : List Cond := .code yX3_depth cX3_depth 4 (some .int) :: ((wsX3_depth_r1 ++ wsX3_depth_r2) ++ wsX30 ++ wsX10)
def wsX3_readerOrNull : List Cond := .code yX3_readerOrNull cX3_readerOrNull 2 (some (.object "ForkStore$Reader")) :: ([.fieldLink RX3 25 "ForkStore" "readers" "[LForkStore$Reader;"] ++ wsX30)
def wsX3_open_r1 : List Cond := [Cond.fieldLink RX3 10 "ForkStore" "keys" "LForkStore$Keys;", Cond.methodLink RX3 97 yX3_readerOrNull, Cond.instanceMethod yX3_readerOrNull, Cond.selects RX3 yX3_readerOrNull yX3_readerOrNull, Cond.initialized RX3, Cond.code yX3_readerOrNull cX3_readerOrNull 2 (some (.object "ForkStore$Reader")), Cond.fieldLink RX3 25 "ForkStore" "readers" "[LForkStore$Reader;", Cond.methodLink RX3 101 yX2_isOpen, Cond.instanceMethod yX2_isOpen, Cond.selects RX2 yX2_isOpen yX2_isOpen, Cond.initialized RX2, Cond.code yX2_isOpen cX2_isOpen 1 (some .boolean), Cond.fieldLink RX2 18 "ForkStore$Reader" "isOpen" "Z", Cond.methodLink RX3 104 yX2_begin, Cond.instanceMethod yX2_begin, Cond.selects RX2 yX2_begin yX2_begin, Cond.code yX2_begin cX2_begin 2 none, Cond.fieldLink RX2 12 "ForkStore$Reader" "seen" "LForkStore$Keys;", Cond.fieldLink RX2 22 "ForkStore$Reader" "place" "I", Cond.methodLink RX2 26 yX1_copyFrom, Cond.instanceMethod yX1_copyFrom, Cond.selects RX1 yX1_copyFrom yX1_copyFrom, Cond.initialized RX1, Cond.code yX1_copyFrom cX1_copyFrom 3 none]
def wsX3_open_r2 : List Cond := [Cond.fieldLink RX1 22 "ForkStore$Keys" "count" "I", Cond.fieldLink RX1 9 "ForkStore$Keys" "words" "[J", Cond.fieldLink RX1 15 "ForkStore$Keys" "sizes" "[I", Cond.fieldLink RX1 19 "ForkStore$Keys" "numbers" "[I"]
def wsX3_open : List Cond := .code yX3_open cX3_open 3 (some .boolean) :: ((wsX3_open_r1 ++ wsX3_open_r2) ++ wsX30 ++ wsX20 ++ wsX10)
def wsX3_openReaderOrNull : List Cond := .code yX3_openReaderOrNull cX3_openReaderOrNull 3 (some (.object "ForkStore$Reader")) :: ([.methodLink RX3 97 yX3_readerOrNull, .instanceMethod yX3_readerOrNull, .selects RX3 yX3_readerOrNull yX3_readerOrNull, .initialized RX3, .code yX3_readerOrNull cX3_readerOrNull 2 (some (.object "ForkStore$Reader")), .fieldLink RX3 25 "ForkStore" "readers" "[LForkStore$Reader;", .methodLink RX3 101 yX2_isOpen, .instanceMethod yX2_isOpen, .selects RX2 yX2_isOpen yX2_isOpen, .initialized RX2, .code yX2_isOpen cX2_isOpen 1 (some .boolean), .fieldLink RX2 18 "ForkStore$Reader" "isOpen" "Z"] ++ wsX30 ++ wsX20)
def wsX3_close : List Cond := .code yX3_close cX3_close 3 (some .boolean) :: ([.methodLink RX3 108 yX3_openReaderOrNull, .instanceMethod yX3_openReaderOrNull, .selects RX3 yX3_openReaderOrNull yX3_openReaderOrNull, .initialized RX3, .code yX3_openReaderOrNull cX3_openReaderOrNull 3 (some (.object "ForkStore$Reader")), .methodLink RX3 97 yX3_readerOrNull, .instanceMethod yX3_readerOrNull, .selects RX3 yX3_readerOrNull yX3_readerOrNull, .code yX3_readerOrNull cX3_readerOrNull 2 (some (.object "ForkStore$Reader")), .fieldLink RX3 25 "ForkStore" "readers" "[LForkStore$Reader;", .methodLink RX3 101 yX2_isOpen, .instanceMethod yX2_isOpen, .selects RX2 yX2_isOpen yX2_isOpen, .initialized RX2, .code yX2_isOpen cX2_isOpen 1 (some .boolean), .fieldLink RX2 18 "ForkStore$Reader" "isOpen" "Z", .methodLink RX3 111 yX2_end, .instanceMethod yX2_end, .selects RX2 yX2_end yX2_end, .code yX2_end cX2_end 1 none] ++ wsX30 ++ wsX20)
def wsX3_seek_r1 : List Cond := [Cond.classLink RX3 34 "java/lang/IllegalArgumentException", Cond.initialized "java/lang/IllegalArgumentException", Cond.classLink RX3 61 "java/lang/IllegalStateException", Cond.initialized "java/lang/IllegalStateException", Cond.methodLink RX3 30 yX3_isKeySize, Cond.static yX3_isKeySize, Cond.initialized RX3, Cond.code yX3_isKeySize cX3_isKeySize 1 (some .boolean), Cond.methodLink RX3 108 yX3_openReaderOrNull, Cond.instanceMethod yX3_openReaderOrNull, Cond.selects RX3 yX3_openReaderOrNull yX3_openReaderOrNull, Cond.code yX3_openReaderOrNull cX3_openReaderOrNull 3 (some (.object "ForkStore$Reader")), Cond.methodLink RX3 97 yX3_readerOrNull, Cond.instanceMethod yX3_readerOrNull, Cond.selects RX3 yX3_readerOrNull yX3_readerOrNull, Cond.code yX3_readerOrNull cX3_readerOrNull 2 (some (.object "ForkStore$Reader")), Cond.fieldLink RX3 25 "ForkStore" "readers" "[LForkStore$Reader;", Cond.methodLink RX3 101 yX2_isOpen, Cond.instanceMethod yX2_isOpen, Cond.selects RX2 yX2_isOpen yX2_isOpen, Cond.initialized RX2, Cond.code yX2_isOpen cX2_isOpen 1 (some .boolean), Cond.fieldLink RX2 18 "ForkStore$Reader" "isOpen" "Z", Cond.methodLink RX3 41 yX3_highestBytes]
def wsX3_seek_r2 : List Cond := [Cond.static yX3_highestBytes, Cond.code yX3_highestBytes cX3_highestBytes 3 (some .long), Cond.constantLong RX3 133 (-1), Cond.methodLink RX3 116 yX2_goToOrBehind, Cond.instanceMethod yX2_goToOrBehind, Cond.selects RX2 yX2_goToOrBehind yX2_goToOrBehind, Cond.code yX2_goToOrBehind cX2_goToOrBehind 4 (some .boolean), Cond.fieldLink RX2 12 "ForkStore$Reader" "seen" "LForkStore$Keys;", Cond.fieldLink RX2 22 "ForkStore$Reader" "place" "I", Cond.methodLink RX2 30 yX1_countBefore, Cond.instanceMethod yX1_countBefore, Cond.selects RX1 yX1_countBefore yX1_countBefore, Cond.initialized RX1, Cond.code yX1_countBefore cX1_countBefore 6 (some .int), Cond.fieldLink RX1 22 "ForkStore$Keys" "count" "I", Cond.fieldLink RX1 9 "ForkStore$Keys" "words" "[J", Cond.fieldLink RX1 15 "ForkStore$Keys" "sizes" "[I", Cond.methodLink RX1 30 yJ13_compareUnsigned_74951, Cond.static yJ13_compareUnsigned_74951, Cond.initialized RJ13, Cond.code yJ13_compareUnsigned_74951 cJ13_compareUnsigned_74951 4 (some .int), Cond.constantLong RJ13 168 (-9223372036854775808), Cond.methodLink RJ13 302 yJ13_compare_74951, Cond.static yJ13_compare_74951]
def wsX3_seek_r3 : List Cond := [Cond.code yJ13_compare_74951 cJ13_compare_74951 4 (some .int), Cond.methodLink RX2 34 yX1_isPlace, Cond.instanceMethod yX1_isPlace, Cond.selects RX1 yX1_isPlace yX1_isPlace, Cond.code yX1_isPlace cX1_isPlace 2 (some .boolean)]
def wsX3_seek : List Cond := .code yX3_seek cX3_seek 6 (some .boolean) :: ((wsX3_seek_r1 ++ (wsX3_seek_r2 ++ wsX3_seek_r3)) ++ wsX30 ++ wsX20 ++ wsX10 ++ (vx_atS RX3 38 "java/lang/IllegalArgumentException" ["java/lang/RuntimeException", "java/lang/Exception"]).filter goodWord ++ (vx_atS RX3 65 "java/lang/IllegalStateException" ["java/lang/RuntimeException", "java/lang/Exception"]).filter goodWord)
def wsX3_next_r1 : List Cond := [Cond.classLink RX3 61 "java/lang/IllegalStateException", Cond.initialized "java/lang/IllegalStateException", Cond.methodLink RX3 108 yX3_openReaderOrNull, Cond.instanceMethod yX3_openReaderOrNull, Cond.selects RX3 yX3_openReaderOrNull yX3_openReaderOrNull, Cond.initialized RX3, Cond.code yX3_openReaderOrNull cX3_openReaderOrNull 3 (some (.object "ForkStore$Reader")), Cond.methodLink RX3 97 yX3_readerOrNull, Cond.instanceMethod yX3_readerOrNull, Cond.selects RX3 yX3_readerOrNull yX3_readerOrNull, Cond.code yX3_readerOrNull cX3_readerOrNull 2 (some (.object "ForkStore$Reader")), Cond.fieldLink RX3 25 "ForkStore" "readers" "[LForkStore$Reader;", Cond.methodLink RX3 101 yX2_isOpen, Cond.instanceMethod yX2_isOpen, Cond.selects RX2 yX2_isOpen yX2_isOpen, Cond.initialized RX2, Cond.code yX2_isOpen cX2_isOpen 1 (some .boolean), Cond.fieldLink RX2 18 "ForkStore$Reader" "isOpen" "Z", Cond.methodLink RX3 120 yX2_goOn, Cond.instanceMethod yX2_goOn, Cond.selects RX2 yX2_goOn yX2_goOn, Cond.code yX2_goOn cX2_goOn 1 (some .boolean), Cond.fieldLink RX2 22 "ForkStore$Reader" "place" "I", Cond.fieldLink RX2 12 "ForkStore$Reader" "seen" "LForkStore$Keys;"]
def wsX3_next_r2 : List Cond := [Cond.methodLink RX2 42 Lib.Math.min.name, Cond.static Lib.Math.min.name, Cond.initialized "java/lang/Math", Cond.code Lib.Math.min.name Lib.Math.min.code 2 (some .int), Cond.methodLink RX2 38 yX1_count, Cond.instanceMethod yX1_count, Cond.selects RX1 yX1_count yX1_count, Cond.initialized RX1, Cond.code yX1_count cX1_count 1 (some .int), Cond.fieldLink RX1 22 "ForkStore$Keys" "count" "I", Cond.methodLink RX2 34 yX1_isPlace, Cond.instanceMethod yX1_isPlace, Cond.selects RX1 yX1_isPlace yX1_isPlace, Cond.code yX1_isPlace cX1_isPlace 2 (some .boolean)]
def wsX3_next : List Cond := .code yX3_next cX3_next 3 (some .boolean) :: ((wsX3_next_r1 ++ wsX3_next_r2) ++ wsX30 ++ wsX20 ++ wsX10 ++ (vx_atS RX3 65 "java/lang/IllegalStateException" ["java/lang/RuntimeException", "java/lang/Exception"]).filter goodWord)
def wsX3_key_r1 : List Cond := [Cond.methodLink RX3 108 yX3_openReaderOrNull, Cond.instanceMethod yX3_openReaderOrNull, Cond.selects RX3 yX3_openReaderOrNull yX3_openReaderOrNull, Cond.initialized RX3, Cond.code yX3_openReaderOrNull cX3_openReaderOrNull 3 (some (.object "ForkStore$Reader")), Cond.methodLink RX3 97 yX3_readerOrNull, Cond.instanceMethod yX3_readerOrNull, Cond.selects RX3 yX3_readerOrNull yX3_readerOrNull, Cond.code yX3_readerOrNull cX3_readerOrNull 2 (some (.object "ForkStore$Reader")), Cond.fieldLink RX3 25 "ForkStore" "readers" "[LForkStore$Reader;", Cond.methodLink RX3 101 yX2_isOpen, Cond.instanceMethod yX2_isOpen, Cond.selects RX2 yX2_isOpen yX2_isOpen, Cond.initialized RX2, Cond.code yX2_isOpen cX2_isOpen 1 (some .boolean), Cond.fieldLink RX2 18 "ForkStore$Reader" "isOpen" "Z", Cond.methodLink RX3 123 yX2_bytesHere, Cond.instanceMethod yX2_bytesHere, Cond.selects RX2 yX2_bytesHere yX2_bytesHere, Cond.code yX2_bytesHere cX2_bytesHere 1 (some .long), Cond.fieldLink RX2 12 "ForkStore$Reader" "seen" "LForkStore$Keys;", Cond.fieldLink RX2 22 "ForkStore$Reader" "place" "I", Cond.methodLink RX2 48 yX1_wordAt, Cond.instanceMethod yX1_wordAt]
def wsX3_key_r2 : List Cond := [Cond.selects RX1 yX1_wordAt yX1_wordAt, Cond.initialized RX1, Cond.code yX1_wordAt cX1_wordAt 2 (some .long), Cond.fieldLink RX1 9 "ForkStore$Keys" "words" "[J", Cond.methodLink RX1 26 yX1_isPlace, Cond.instanceMethod yX1_isPlace, Cond.selects RX1 yX1_isPlace yX1_isPlace, Cond.code yX1_isPlace cX1_isPlace 2 (some .boolean), Cond.fieldLink RX1 22 "ForkStore$Keys" "count" "I"]
def wsX3_key : List Cond := .code yX3_key cX3_key 3 (some .long) :: ((wsX3_key_r1 ++ wsX3_key_r2) ++ wsX30 ++ wsX20 ++ wsX10)
def wsX3_length_r1 : List Cond := [Cond.methodLink RX3 108 yX3_openReaderOrNull, Cond.instanceMethod yX3_openReaderOrNull, Cond.selects RX3 yX3_openReaderOrNull yX3_openReaderOrNull, Cond.initialized RX3, Cond.code yX3_openReaderOrNull cX3_openReaderOrNull 3 (some (.object "ForkStore$Reader")), Cond.methodLink RX3 97 yX3_readerOrNull, Cond.instanceMethod yX3_readerOrNull, Cond.selects RX3 yX3_readerOrNull yX3_readerOrNull, Cond.code yX3_readerOrNull cX3_readerOrNull 2 (some (.object "ForkStore$Reader")), Cond.fieldLink RX3 25 "ForkStore" "readers" "[LForkStore$Reader;", Cond.methodLink RX3 101 yX2_isOpen, Cond.instanceMethod yX2_isOpen, Cond.selects RX2 yX2_isOpen yX2_isOpen, Cond.initialized RX2, Cond.code yX2_isOpen cX2_isOpen 1 (some .boolean), Cond.fieldLink RX2 18 "ForkStore$Reader" "isOpen" "Z", Cond.methodLink RX3 127 yX2_sizeHere, Cond.instanceMethod yX2_sizeHere, Cond.selects RX2 yX2_sizeHere yX2_sizeHere, Cond.code yX2_sizeHere cX2_sizeHere 1 (some .int), Cond.fieldLink RX2 12 "ForkStore$Reader" "seen" "LForkStore$Keys;", Cond.fieldLink RX2 22 "ForkStore$Reader" "place" "I", Cond.methodLink RX2 52 yX1_sizeAt, Cond.instanceMethod yX1_sizeAt]
def wsX3_length_r2 : List Cond := [Cond.selects RX1 yX1_sizeAt yX1_sizeAt, Cond.initialized RX1, Cond.code yX1_sizeAt cX1_sizeAt 2 (some .int), Cond.fieldLink RX1 15 "ForkStore$Keys" "sizes" "[I", Cond.methodLink RX1 26 yX1_isPlace, Cond.instanceMethod yX1_isPlace, Cond.selects RX1 yX1_isPlace yX1_isPlace, Cond.code yX1_isPlace cX1_isPlace 2 (some .boolean), Cond.fieldLink RX1 22 "ForkStore$Keys" "count" "I"]
def wsX3_length : List Cond := .code yX3_length cX3_length 3 (some .int) :: ((wsX3_length_r1 ++ wsX3_length_r2) ++ wsX30 ++ wsX20 ++ wsX10)
def wsX3_value_r1 : List Cond := [Cond.methodLink RX3 108 yX3_openReaderOrNull, Cond.instanceMethod yX3_openReaderOrNull, Cond.selects RX3 yX3_openReaderOrNull yX3_openReaderOrNull, Cond.initialized RX3, Cond.code yX3_openReaderOrNull cX3_openReaderOrNull 3 (some (.object "ForkStore$Reader")), Cond.methodLink RX3 97 yX3_readerOrNull, Cond.instanceMethod yX3_readerOrNull, Cond.selects RX3 yX3_readerOrNull yX3_readerOrNull, Cond.code yX3_readerOrNull cX3_readerOrNull 2 (some (.object "ForkStore$Reader")), Cond.fieldLink RX3 25 "ForkStore" "readers" "[LForkStore$Reader;", Cond.methodLink RX3 101 yX2_isOpen, Cond.instanceMethod yX2_isOpen, Cond.selects RX2 yX2_isOpen yX2_isOpen, Cond.initialized RX2, Cond.code yX2_isOpen cX2_isOpen 1 (some .boolean), Cond.fieldLink RX2 18 "ForkStore$Reader" "isOpen" "Z", Cond.methodLink RX3 130 yX2_numberHere, Cond.instanceMethod yX2_numberHere, Cond.selects RX2 yX2_numberHere yX2_numberHere, Cond.code yX2_numberHere cX2_numberHere 1 (some .int), Cond.fieldLink RX2 12 "ForkStore$Reader" "seen" "LForkStore$Keys;", Cond.fieldLink RX2 22 "ForkStore$Reader" "place" "I", Cond.methodLink RX2 56 yX1_numberAt, Cond.instanceMethod yX1_numberAt]
def wsX3_value_r2 : List Cond := [Cond.selects RX1 yX1_numberAt yX1_numberAt, Cond.initialized RX1, Cond.code yX1_numberAt cX1_numberAt 2 (some .int), Cond.fieldLink RX1 19 "ForkStore$Keys" "numbers" "[I", Cond.methodLink RX1 26 yX1_isPlace, Cond.instanceMethod yX1_isPlace, Cond.selects RX1 yX1_isPlace yX1_isPlace, Cond.code yX1_isPlace cX1_isPlace 2 (some .boolean), Cond.fieldLink RX1 22 "ForkStore$Keys" "count" "I"]
def wsX3_value : List Cond := .code yX3_value cX3_value 3 (some .int) :: ((wsX3_value_r1 ++ wsX3_value_r2) ++ wsX30 ++ wsX20 ++ wsX10)
def wsX4_init : List Cond := .code yX4_init cX4_init 1 none :: ([.methodLink RX4 1 objectInit, .instanceMethod objectInit, .code objectInit ⟨#[0xb1]⟩ 1 none, .arrayClass .int, .fieldLink RX4 7 "ForkStoreModel" "counts" "[I", .arrayClass .long, .fieldLink RX4 13 "ForkStoreModel" "words" "[J", .fieldLink RX4 17 "ForkStoreModel" "sizes" "[I", .fieldLink RX4 20 "ForkStoreModel" "values" "[I", .arrayClass .boolean, .fieldLink RX4 23 "ForkStoreModel" "open" "[Z", .fieldLink RX4 27 "ForkStoreModel" "where" "[I"] ++ wsX40)
def wsX4_thrown : List Cond := .code yX4_thrown cX4_thrown 1 (some .int) :: ([.fieldLink RX4 30 "ForkStoreModel" "thrown" "I"] ++ wsX40)
def wsX4_cut : List Cond := .code yX4_cut cX4_cut 3 (some .long) :: ([])
def wsX4_part : List Cond := .code yX4_part cX4_part 3 (some .int) :: ([])
def wsX4_order : List Cond := .code yX4_order cX4_order 7 (some .int) :: ([.fieldLink RX4 13 "ForkStoreModel" "words" "[J", .fieldLink RX4 17 "ForkStoreModel" "sizes" "[I", .constantLong RX4 34 (-9223372036854775808)] ++ wsX40)
def wsX4_place : List Cond := .code yX4_place cX4_place 6 (some .int) :: ([.fieldLink RX4 7 "ForkStoreModel" "counts" "[I", .methodLink RX4 36 yX4_order, .instanceMethod yX4_order, .selects RX4 yX4_order yX4_order, .initialized RX4, .code yX4_order cX4_order 7 (some .int), .fieldLink RX4 13 "ForkStoreModel" "words" "[J", .fieldLink RX4 17 "ForkStoreModel" "sizes" "[I", .constantLong RX4 34 (-9223372036854775808)] ++ wsX40)
def wsX4_has : List Cond := .code yX4_has cX4_has 6 (some .boolean) :: ([.fieldLink RX4 7 "ForkStoreModel" "counts" "[I", .methodLink RX4 36 yX4_order, .instanceMethod yX4_order, .selects RX4 yX4_order yX4_order, .initialized RX4, .code yX4_order cX4_order 7 (some .int), .fieldLink RX4 13 "ForkStoreModel" "words" "[J", .fieldLink RX4 17 "ForkStoreModel" "sizes" "[I", .constantLong RX4 34 (-9223372036854775808)] ++ wsX40)
def wsX4_begins : List Cond := .code yX4_begins cX4_begins 5 (some .boolean) :: ([.fieldLink RX4 17 "ForkStoreModel" "sizes" "[I", .fieldLink RX4 13 "ForkStoreModel" "words" "[J", .methodLink RX4 40 yX4_cut, .static yX4_cut, .initialized RX4, .code yX4_cut cX4_cut 3 (some .long)] ++ wsX40)
def wsX4_copy : List Cond := .code yX4_copy cX4_copy 3 none :: ([.fieldLink RX4 13 "ForkStoreModel" "words" "[J", .fieldLink RX4 17 "ForkStoreModel" "sizes" "[I", .fieldLink RX4 20 "ForkStoreModel" "values" "[I"] ++ wsX40)
def wsX4_put_r1 : List Cond := [Cond.fieldLink RX4 7 "ForkStoreModel" "counts" "[I", Cond.fieldLink RX4 30 "ForkStoreModel" "thrown" "I", Cond.fieldLink RX4 13 "ForkStoreModel" "words" "[J", Cond.fieldLink RX4 17 "ForkStoreModel" "sizes" "[I", Cond.fieldLink RX4 20 "ForkStoreModel" "values" "[I", Cond.methodLink RX4 40 yX4_cut, Cond.static yX4_cut, Cond.initialized RX4, Cond.code yX4_cut cX4_cut 3 (some .long), Cond.methodLink RX4 44 yX4_place, Cond.instanceMethod yX4_place, Cond.selects RX4 yX4_place yX4_place, Cond.code yX4_place cX4_place 6 (some .int), Cond.methodLink RX4 36 yX4_order, Cond.instanceMethod yX4_order, Cond.selects RX4 yX4_order yX4_order, Cond.code yX4_order cX4_order 7 (some .int), Cond.constantLong RX4 34 (-9223372036854775808), Cond.methodLink RX4 47 yX4_has, Cond.instanceMethod yX4_has, Cond.selects RX4 yX4_has yX4_has, Cond.code yX4_has cX4_has 6 (some .boolean), Cond.methodLink RX4 51 yX4_copy, Cond.instanceMethod yX4_copy]
def wsX4_put_r2 : List Cond := [Cond.selects RX4 yX4_copy yX4_copy, Cond.code yX4_copy cX4_copy 3 none]
def wsX4_put : List Cond := .code yX4_put cX4_put 11 (some .boolean) :: ((wsX4_put_r1 ++ wsX4_put_r2) ++ wsX40)
def wsX4_get : List Cond := .code yX4_get cX4_get 8 (some .int) :: ([.fieldLink RX4 30 "ForkStoreModel" "thrown" "I", .fieldLink RX4 20 "ForkStoreModel" "values" "[I", .methodLink RX4 40 yX4_cut, .static yX4_cut, .initialized RX4, .code yX4_cut cX4_cut 3 (some .long), .methodLink RX4 44 yX4_place, .instanceMethod yX4_place, .selects RX4 yX4_place yX4_place, .code yX4_place cX4_place 6 (some .int), .fieldLink RX4 7 "ForkStoreModel" "counts" "[I", .methodLink RX4 36 yX4_order, .instanceMethod yX4_order, .selects RX4 yX4_order yX4_order, .code yX4_order cX4_order 7 (some .int), .fieldLink RX4 13 "ForkStoreModel" "words" "[J", .fieldLink RX4 17 "ForkStoreModel" "sizes" "[I", .constantLong RX4 34 (-9223372036854775808), .methodLink RX4 47 yX4_has, .instanceMethod yX4_has, .selects RX4 yX4_has yX4_has, .code yX4_has cX4_has 6 (some .boolean)] ++ wsX40)
def wsX4_remove_r1 : List Cond := [Cond.fieldLink RX4 30 "ForkStoreModel" "thrown" "I", Cond.fieldLink RX4 7 "ForkStoreModel" "counts" "[I", Cond.methodLink RX4 40 yX4_cut, Cond.static yX4_cut, Cond.initialized RX4, Cond.code yX4_cut cX4_cut 3 (some .long), Cond.methodLink RX4 44 yX4_place, Cond.instanceMethod yX4_place, Cond.selects RX4 yX4_place yX4_place, Cond.code yX4_place cX4_place 6 (some .int), Cond.methodLink RX4 36 yX4_order, Cond.instanceMethod yX4_order, Cond.selects RX4 yX4_order yX4_order, Cond.code yX4_order cX4_order 7 (some .int), Cond.fieldLink RX4 13 "ForkStoreModel" "words" "[J", Cond.fieldLink RX4 17 "ForkStoreModel" "sizes" "[I", Cond.constantLong RX4 34 (-9223372036854775808), Cond.methodLink RX4 47 yX4_has, Cond.instanceMethod yX4_has, Cond.selects RX4 yX4_has yX4_has, Cond.code yX4_has cX4_has 6 (some .boolean), Cond.methodLink RX4 51 yX4_copy, Cond.instanceMethod yX4_copy, Cond.selects RX4 yX4_copy yX4_copy]
def wsX4_remove_r2 : List Cond := [Cond.code yX4_copy cX4_copy 3 none, Cond.fieldLink RX4 20 "ForkStoreModel" "values" "[I"]
def wsX4_remove : List Cond := .code yX4_remove cX4_remove 6 (some .boolean) :: ((wsX4_remove_r1 ++ wsX4_remove_r2) ++ wsX40)
def wsX4_size : List Cond := .code yX4_size cX4_size 1 (some .int) :: ([.fieldLink RX4 30 "ForkStoreModel" "thrown" "I", .fieldLink RX4 7 "ForkStoreModel" "counts" "[I"] ++ wsX40)
def wsX4_within : List Cond := .code yX4_within cX4_within 6 (some .int) :: ([.fieldLink RX4 30 "ForkStoreModel" "thrown" "I", .fieldLink RX4 7 "ForkStoreModel" "counts" "[I", .methodLink RX4 40 yX4_cut, .static yX4_cut, .initialized RX4, .code yX4_cut cX4_cut 3 (some .long), .methodLink RX4 55 yX4_begins, .instanceMethod yX4_begins, .selects RX4 yX4_begins yX4_begins, .code yX4_begins cX4_begins 5 (some .boolean), .fieldLink RX4 17 "ForkStoreModel" "sizes" "[I", .fieldLink RX4 13 "ForkStoreModel" "words" "[J"] ++ wsX40)
def wsX4_rank : List Cond := .code yX4_rank cX4_rank 4 (some .int) :: ([.fieldLink RX4 30 "ForkStoreModel" "thrown" "I", .methodLink RX4 40 yX4_cut, .static yX4_cut, .initialized RX4, .code yX4_cut cX4_cut 3 (some .long), .methodLink RX4 44 yX4_place, .instanceMethod yX4_place, .selects RX4 yX4_place yX4_place, .code yX4_place cX4_place 6 (some .int), .fieldLink RX4 7 "ForkStoreModel" "counts" "[I", .methodLink RX4 36 yX4_order, .instanceMethod yX4_order, .selects RX4 yX4_order yX4_order, .code yX4_order cX4_order 7 (some .int), .fieldLink RX4 13 "ForkStoreModel" "words" "[J", .fieldLink RX4 17 "ForkStoreModel" "sizes" "[I", .constantLong RX4 34 (-9223372036854775808)] ++ wsX40)
def wsX4_branches : List Cond := .code yX4_branches cX4_branches 11 (some .int) :: ([.fieldLink RX4 7 "ForkStoreModel" "counts" "[I", .fieldLink RX4 17 "ForkStoreModel" "sizes" "[I", .fieldLink RX4 13 "ForkStoreModel" "words" "[J", .methodLink RX4 55 yX4_begins, .instanceMethod yX4_begins, .selects RX4 yX4_begins yX4_begins, .initialized RX4, .code yX4_begins cX4_begins 5 (some .boolean), .methodLink RX4 40 yX4_cut, .static yX4_cut, .code yX4_cut cX4_cut 3 (some .long), .methodLink RX4 59 yX4_part, .static yX4_part, .code yX4_part cX4_part 3 (some .int)] ++ wsX40)
def wsX4_sizeOf : List Cond := .code yX4_sizeOf cX4_sizeOf 1 (some .int) :: ([])
def wsX4_forks : List Cond := .code yX4_forks cX4_forks 9 (some .int) :: ([.fieldLink RX4 30 "ForkStoreModel" "thrown" "I", .fieldLink RX4 7 "ForkStoreModel" "counts" "[I", .fieldLink RX4 17 "ForkStoreModel" "sizes" "[I", .fieldLink RX4 13 "ForkStoreModel" "words" "[J", .methodLink RX4 40 yX4_cut, .static yX4_cut, .initialized RX4, .code yX4_cut cX4_cut 3 (some .long), .methodLink RX4 55 yX4_begins, .instanceMethod yX4_begins, .selects RX4 yX4_begins yX4_begins, .code yX4_begins cX4_begins 5 (some .boolean), .methodLink RX4 63 yX4_branches, .instanceMethod yX4_branches, .selects RX4 yX4_branches yX4_branches, .code yX4_branches cX4_branches 11 (some .int), .methodLink RX4 59 yX4_part, .static yX4_part, .code yX4_part cX4_part 3 (some .int), .methodLink RX4 66 yX4_sizeOf, .static yX4_sizeOf, .code yX4_sizeOf cX4_sizeOf 1 (some .int)] ++ wsX40)
def wsX4_depth : List Cond := .code yX4_depth cX4_depth 6 (some .int) :: ([.fieldLink RX4 30 "ForkStoreModel" "thrown" "I", .methodLink RX4 40 yX4_cut, .static yX4_cut, .initialized RX4, .code yX4_cut cX4_cut 3 (some .long), .methodLink RX4 63 yX4_branches, .instanceMethod yX4_branches, .selects RX4 yX4_branches yX4_branches, .code yX4_branches cX4_branches 11 (some .int), .fieldLink RX4 7 "ForkStoreModel" "counts" "[I", .fieldLink RX4 17 "ForkStoreModel" "sizes" "[I", .fieldLink RX4 13 "ForkStoreModel" "words" "[J", .methodLink RX4 55 yX4_begins, .instanceMethod yX4_begins, .selects RX4 yX4_begins yX4_begins, .code yX4_begins cX4_begins 5 (some .boolean), .methodLink RX4 59 yX4_part, .static yX4_part, .code yX4_part cX4_part 3 (some .int)] ++ wsX40)
def wsX4_isOpen : List Cond := .code yX4_isOpen cX4_isOpen 2 (some .boolean) :: ([.fieldLink RX4 23 "ForkStoreModel" "open" "[Z"] ++ wsX40)
def wsX4_open : List Cond := .code yX4_open cX4_open 3 (some .boolean) :: ([.fieldLink RX4 30 "ForkStoreModel" "thrown" "I", .fieldLink RX4 23 "ForkStoreModel" "open" "[Z", .fieldLink RX4 27 "ForkStoreModel" "where" "[I", .fieldLink RX4 7 "ForkStoreModel" "counts" "[I", .methodLink RX4 51 yX4_copy, .instanceMethod yX4_copy, .selects RX4 yX4_copy yX4_copy, .initialized RX4, .code yX4_copy cX4_copy 3 none, .fieldLink RX4 13 "ForkStoreModel" "words" "[J", .fieldLink RX4 17 "ForkStoreModel" "sizes" "[I", .fieldLink RX4 20 "ForkStoreModel" "values" "[I"] ++ wsX40)
def wsX4_close : List Cond := .code yX4_close cX4_close 3 (some .boolean) :: ([.fieldLink RX4 30 "ForkStoreModel" "thrown" "I", .fieldLink RX4 23 "ForkStoreModel" "open" "[Z", .methodLink RX4 70 yX4_isOpen, .instanceMethod yX4_isOpen, .selects RX4 yX4_isOpen yX4_isOpen, .initialized RX4, .code yX4_isOpen cX4_isOpen 2 (some .boolean)] ++ wsX40)
def wsX4_seek : List Cond := .code yX4_seek cX4_seek 5 (some .boolean) :: ([.fieldLink RX4 30 "ForkStoreModel" "thrown" "I", .fieldLink RX4 27 "ForkStoreModel" "where" "[I", .fieldLink RX4 7 "ForkStoreModel" "counts" "[I", .methodLink RX4 70 yX4_isOpen, .instanceMethod yX4_isOpen, .selects RX4 yX4_isOpen yX4_isOpen, .initialized RX4, .code yX4_isOpen cX4_isOpen 2 (some .boolean), .fieldLink RX4 23 "ForkStoreModel" "open" "[Z", .methodLink RX4 40 yX4_cut, .static yX4_cut, .code yX4_cut cX4_cut 3 (some .long), .methodLink RX4 44 yX4_place, .instanceMethod yX4_place, .selects RX4 yX4_place yX4_place, .code yX4_place cX4_place 6 (some .int), .methodLink RX4 36 yX4_order, .instanceMethod yX4_order, .selects RX4 yX4_order yX4_order, .code yX4_order cX4_order 7 (some .int), .fieldLink RX4 13 "ForkStoreModel" "words" "[J", .fieldLink RX4 17 "ForkStoreModel" "sizes" "[I", .constantLong RX4 34 (-9223372036854775808)] ++ wsX40)
def wsX4_next : List Cond := .code yX4_next cX4_next 2 (some .boolean) :: ([.fieldLink RX4 30 "ForkStoreModel" "thrown" "I", .fieldLink RX4 27 "ForkStoreModel" "where" "[I", .fieldLink RX4 7 "ForkStoreModel" "counts" "[I", .methodLink RX4 70 yX4_isOpen, .instanceMethod yX4_isOpen, .selects RX4 yX4_isOpen yX4_isOpen, .initialized RX4, .code yX4_isOpen cX4_isOpen 2 (some .boolean), .fieldLink RX4 23 "ForkStoreModel" "open" "[Z"] ++ wsX40)
def wsX4_on : List Cond := .code yX4_on cX4_on 2 (some .int) :: ([.fieldLink RX4 27 "ForkStoreModel" "where" "[I", .fieldLink RX4 7 "ForkStoreModel" "counts" "[I", .methodLink RX4 70 yX4_isOpen, .instanceMethod yX4_isOpen, .selects RX4 yX4_isOpen yX4_isOpen, .initialized RX4, .code yX4_isOpen cX4_isOpen 2 (some .boolean), .fieldLink RX4 23 "ForkStoreModel" "open" "[Z"] ++ wsX40)
def wsX4_key : List Cond := .code yX4_key cX4_key 3 (some .long) :: ([.fieldLink RX4 30 "ForkStoreModel" "thrown" "I", .fieldLink RX4 13 "ForkStoreModel" "words" "[J", .methodLink RX4 74 yX4_on, .instanceMethod yX4_on, .selects RX4 yX4_on yX4_on, .initialized RX4, .code yX4_on cX4_on 2 (some .int), .fieldLink RX4 27 "ForkStoreModel" "where" "[I", .fieldLink RX4 7 "ForkStoreModel" "counts" "[I", .methodLink RX4 70 yX4_isOpen, .instanceMethod yX4_isOpen, .selects RX4 yX4_isOpen yX4_isOpen, .code yX4_isOpen cX4_isOpen 2 (some .boolean), .fieldLink RX4 23 "ForkStoreModel" "open" "[Z"] ++ wsX40)
def wsX4_length : List Cond := .code yX4_length cX4_length 3 (some .int) :: ([.fieldLink RX4 30 "ForkStoreModel" "thrown" "I", .fieldLink RX4 17 "ForkStoreModel" "sizes" "[I", .methodLink RX4 74 yX4_on, .instanceMethod yX4_on, .selects RX4 yX4_on yX4_on, .initialized RX4, .code yX4_on cX4_on 2 (some .int), .fieldLink RX4 27 "ForkStoreModel" "where" "[I", .fieldLink RX4 7 "ForkStoreModel" "counts" "[I", .methodLink RX4 70 yX4_isOpen, .instanceMethod yX4_isOpen, .selects RX4 yX4_isOpen yX4_isOpen, .code yX4_isOpen cX4_isOpen 2 (some .boolean), .fieldLink RX4 23 "ForkStoreModel" "open" "[Z"] ++ wsX40)
def wsX4_value : List Cond := .code yX4_value cX4_value 3 (some .int) :: ([.fieldLink RX4 30 "ForkStoreModel" "thrown" "I", .fieldLink RX4 20 "ForkStoreModel" "values" "[I", .methodLink RX4 74 yX4_on, .instanceMethod yX4_on, .selects RX4 yX4_on yX4_on, .initialized RX4, .code yX4_on cX4_on 2 (some .int), .fieldLink RX4 27 "ForkStoreModel" "where" "[I", .fieldLink RX4 7 "ForkStoreModel" "counts" "[I", .methodLink RX4 70 yX4_isOpen, .instanceMethod yX4_isOpen, .selects RX4 yX4_isOpen yX4_isOpen, .code yX4_isOpen cX4_isOpen 2 (some .boolean), .fieldLink RX4 23 "ForkStoreModel" "open" "[Z"] ++ wsX40)
def wsJ9_max_7cf53 : List Cond := .code yJ9_max_7cf53 cJ9_max_7cf53 2 (some .int) :: ([])
def wsJ9_min_7cf53 : List Cond := .code yJ9_min_7cf53 cJ9_min_7cf53 2 (some .int) :: ([])
def wsL_put_r1 : List Cond := [Cond.classLink RL 13 "java/lang/IllegalArgumentException", Cond.classLink RL 15 "java/lang/IllegalStateException", Cond.methodLink RL 7 yX3_put, Cond.instanceMethod yX3_put, Cond.selects RX3 yX3_put yX3_put, Cond.initialized RX3, Cond.code yX3_put cX3_put 8 (some .boolean), Cond.classLink RX3 34 "java/lang/IllegalArgumentException", Cond.initialized "java/lang/IllegalArgumentException", Cond.classLink RX3 61 "java/lang/IllegalStateException", Cond.initialized "java/lang/IllegalStateException", Cond.fieldLink RX3 10 "ForkStore" "keys" "LForkStore$Keys;", Cond.methodLink RX3 30 yX3_isKeySize, Cond.static yX3_isKeySize, Cond.code yX3_isKeySize cX3_isKeySize 1 (some .boolean), Cond.methodLink RX3 41 yX3_highestBytes, Cond.static yX3_highestBytes, Cond.code yX3_highestBytes cX3_highestBytes 3 (some .long), Cond.constantLong RX3 133 (-1), Cond.methodLink RX3 45 yX1_countBefore, Cond.instanceMethod yX1_countBefore, Cond.selects RX1 yX1_countBefore yX1_countBefore, Cond.initialized RX1, Cond.code yX1_countBefore cX1_countBefore 6 (some .int)]
def wsL_put_r2 : List Cond := [Cond.fieldLink RX1 22 "ForkStore$Keys" "count" "I", Cond.fieldLink RX1 9 "ForkStore$Keys" "words" "[J", Cond.fieldLink RX1 15 "ForkStore$Keys" "sizes" "[I", Cond.methodLink RX1 30 yJ13_compareUnsigned_74951, Cond.static yJ13_compareUnsigned_74951, Cond.initialized RJ13, Cond.code yJ13_compareUnsigned_74951 cJ13_compareUnsigned_74951 4 (some .int), Cond.constantLong RJ13 168 (-9223372036854775808), Cond.methodLink RJ13 302 yJ13_compare_74951, Cond.static yJ13_compare_74951, Cond.code yJ13_compare_74951 cJ13_compare_74951 4 (some .int), Cond.methodLink RX3 49 yX1_standsAt, Cond.instanceMethod yX1_standsAt, Cond.selects RX1 yX1_standsAt yX1_standsAt, Cond.code yX1_standsAt cX1_standsAt 5 (some .boolean), Cond.methodLink RX1 26 yX1_isPlace, Cond.instanceMethod yX1_isPlace, Cond.selects RX1 yX1_isPlace yX1_isPlace, Cond.code yX1_isPlace cX1_isPlace 2 (some .boolean), Cond.methodLink RX3 53 yX1_setNumber, Cond.instanceMethod yX1_setNumber, Cond.selects RX1 yX1_setNumber yX1_setNumber, Cond.code yX1_setNumber cX1_setNumber 3 none, Cond.fieldLink RX1 19 "ForkStore$Keys" "numbers" "[I"]
def wsL_put_r3 : List Cond := [Cond.methodLink RX3 57 yX1_isFull, Cond.instanceMethod yX1_isFull, Cond.selects RX1 yX1_isFull yX1_isFull, Cond.code yX1_isFull cX1_isFull 1 (some .boolean), Cond.methodLink RX3 66 yX1_insert, Cond.instanceMethod yX1_insert, Cond.selects RX1 yX1_insert yX1_insert, Cond.code yX1_insert cX1_insert 7 none, Cond.methodLink RX1 49 yX1_isFull]
def wsL_put : List Cond := .codeWith yL_put cL_put 7 (some .int) [(0, 20, 23, 13), (0, 20, 27, 15)] :: ((wsL_put_r1 ++ (wsL_put_r2 ++ wsL_put_r3)) ++ wsX30 ++ wsX10 ++ (vx_atS RX3 38 "java/lang/IllegalArgumentException" ["java/lang/RuntimeException", "java/lang/Exception"]).filter goodWord ++ (vx_atS RX3 65 "java/lang/IllegalStateException" ["java/lang/RuntimeException", "java/lang/Exception"]).filter goodWord)
def wsL_get_r1 : List Cond := [Cond.classLink RL 13 "java/lang/IllegalArgumentException", Cond.classLink RL 21 "java/util/NoSuchElementException", Cond.methodLink RL 17 yX3_get, Cond.instanceMethod yX3_get, Cond.selects RX3 yX3_get yX3_get, Cond.initialized RX3, Cond.code yX3_get cX3_get 7 (some .int), Cond.classLink RX3 34 "java/lang/IllegalArgumentException", Cond.initialized "java/lang/IllegalArgumentException", Cond.classLink RX3 70 "java/util/NoSuchElementException", Cond.initialized "java/util/NoSuchElementException", Cond.fieldLink RX3 10 "ForkStore" "keys" "LForkStore$Keys;", Cond.methodLink RX3 30 yX3_isKeySize, Cond.static yX3_isKeySize, Cond.code yX3_isKeySize cX3_isKeySize 1 (some .boolean), Cond.methodLink RX3 41 yX3_highestBytes, Cond.static yX3_highestBytes, Cond.code yX3_highestBytes cX3_highestBytes 3 (some .long), Cond.constantLong RX3 133 (-1), Cond.methodLink RX3 45 yX1_countBefore, Cond.instanceMethod yX1_countBefore, Cond.selects RX1 yX1_countBefore yX1_countBefore, Cond.initialized RX1, Cond.code yX1_countBefore cX1_countBefore 6 (some .int)]
def wsL_get_r2 : List Cond := [Cond.fieldLink RX1 22 "ForkStore$Keys" "count" "I", Cond.fieldLink RX1 9 "ForkStore$Keys" "words" "[J", Cond.fieldLink RX1 15 "ForkStore$Keys" "sizes" "[I", Cond.methodLink RX1 30 yJ13_compareUnsigned_74951, Cond.static yJ13_compareUnsigned_74951, Cond.initialized RJ13, Cond.code yJ13_compareUnsigned_74951 cJ13_compareUnsigned_74951 4 (some .int), Cond.constantLong RJ13 168 (-9223372036854775808), Cond.methodLink RJ13 302 yJ13_compare_74951, Cond.static yJ13_compare_74951, Cond.code yJ13_compare_74951 cJ13_compare_74951 4 (some .int), Cond.methodLink RX3 49 yX1_standsAt, Cond.instanceMethod yX1_standsAt, Cond.selects RX1 yX1_standsAt yX1_standsAt, Cond.code yX1_standsAt cX1_standsAt 5 (some .boolean), Cond.methodLink RX1 26 yX1_isPlace, Cond.instanceMethod yX1_isPlace, Cond.selects RX1 yX1_isPlace yX1_isPlace, Cond.code yX1_isPlace cX1_isPlace 2 (some .boolean), Cond.methodLink RX3 75 yX1_numberAt, Cond.instanceMethod yX1_numberAt, Cond.selects RX1 yX1_numberAt yX1_numberAt, Cond.code yX1_numberAt cX1_numberAt 2 (some .int), Cond.fieldLink RX1 19 "ForkStore$Keys" "numbers" "[I"]
def wsL_get : List Cond := .codeWith yL_get cL_get 6 (some .int) [(0, 11, 14, 13), (0, 11, 18, 21)] :: ((wsL_get_r1 ++ wsL_get_r2) ++ wsX30 ++ wsX10 ++ (vx_atS RX3 38 "java/lang/IllegalArgumentException" ["java/lang/RuntimeException", "java/lang/Exception"]).filter goodWord ++ (vx_atS RX3 74 "java/util/NoSuchElementException" ["java/lang/RuntimeException", "java/lang/Exception"]).filter goodWord)
def wsL_seek_r1 : List Cond := [Cond.classLink RL 13 "java/lang/IllegalArgumentException", Cond.classLink RL 15 "java/lang/IllegalStateException", Cond.methodLink RL 23 yX3_seek, Cond.instanceMethod yX3_seek, Cond.selects RX3 yX3_seek yX3_seek, Cond.initialized RX3, Cond.code yX3_seek cX3_seek 6 (some .boolean), Cond.classLink RX3 34 "java/lang/IllegalArgumentException", Cond.initialized "java/lang/IllegalArgumentException", Cond.classLink RX3 61 "java/lang/IllegalStateException", Cond.initialized "java/lang/IllegalStateException", Cond.methodLink RX3 30 yX3_isKeySize, Cond.static yX3_isKeySize, Cond.code yX3_isKeySize cX3_isKeySize 1 (some .boolean), Cond.methodLink RX3 108 yX3_openReaderOrNull, Cond.instanceMethod yX3_openReaderOrNull, Cond.selects RX3 yX3_openReaderOrNull yX3_openReaderOrNull, Cond.code yX3_openReaderOrNull cX3_openReaderOrNull 3 (some (.object "ForkStore$Reader")), Cond.methodLink RX3 97 yX3_readerOrNull, Cond.instanceMethod yX3_readerOrNull, Cond.selects RX3 yX3_readerOrNull yX3_readerOrNull, Cond.code yX3_readerOrNull cX3_readerOrNull 2 (some (.object "ForkStore$Reader")), Cond.fieldLink RX3 25 "ForkStore" "readers" "[LForkStore$Reader;", Cond.methodLink RX3 101 yX2_isOpen]
def wsL_seek_r2 : List Cond := [Cond.instanceMethod yX2_isOpen, Cond.selects RX2 yX2_isOpen yX2_isOpen, Cond.initialized RX2, Cond.code yX2_isOpen cX2_isOpen 1 (some .boolean), Cond.fieldLink RX2 18 "ForkStore$Reader" "isOpen" "Z", Cond.methodLink RX3 41 yX3_highestBytes, Cond.static yX3_highestBytes, Cond.code yX3_highestBytes cX3_highestBytes 3 (some .long), Cond.constantLong RX3 133 (-1), Cond.methodLink RX3 116 yX2_goToOrBehind, Cond.instanceMethod yX2_goToOrBehind, Cond.selects RX2 yX2_goToOrBehind yX2_goToOrBehind, Cond.code yX2_goToOrBehind cX2_goToOrBehind 4 (some .boolean), Cond.fieldLink RX2 12 "ForkStore$Reader" "seen" "LForkStore$Keys;", Cond.fieldLink RX2 22 "ForkStore$Reader" "place" "I", Cond.methodLink RX2 30 yX1_countBefore, Cond.instanceMethod yX1_countBefore, Cond.selects RX1 yX1_countBefore yX1_countBefore, Cond.initialized RX1, Cond.code yX1_countBefore cX1_countBefore 6 (some .int), Cond.fieldLink RX1 22 "ForkStore$Keys" "count" "I", Cond.fieldLink RX1 9 "ForkStore$Keys" "words" "[J", Cond.fieldLink RX1 15 "ForkStore$Keys" "sizes" "[I", Cond.methodLink RX1 30 yJ13_compareUnsigned_74951]
def wsL_seek_r3 : List Cond := [Cond.static yJ13_compareUnsigned_74951, Cond.initialized RJ13, Cond.code yJ13_compareUnsigned_74951 cJ13_compareUnsigned_74951 4 (some .int), Cond.constantLong RJ13 168 (-9223372036854775808), Cond.methodLink RJ13 302 yJ13_compare_74951, Cond.static yJ13_compare_74951, Cond.code yJ13_compare_74951 cJ13_compare_74951 4 (some .int), Cond.methodLink RX2 34 yX1_isPlace, Cond.instanceMethod yX1_isPlace, Cond.selects RX1 yX1_isPlace yX1_isPlace, Cond.code yX1_isPlace cX1_isPlace 2 (some .boolean)]
def wsL_seek : List Cond := .codeWith yL_seek cL_seek 7 (some .int) [(0, 20, 23, 13), (0, 20, 27, 15)] :: ((wsL_seek_r1 ++ (wsL_seek_r2 ++ wsL_seek_r3)) ++ wsX30 ++ wsX20 ++ wsX10 ++ (vx_atS RX3 38 "java/lang/IllegalArgumentException" ["java/lang/RuntimeException", "java/lang/Exception"]).filter goodWord ++ (vx_atS RX3 65 "java/lang/IllegalStateException" ["java/lang/RuntimeException", "java/lang/Exception"]).filter goodWord)
def wsL_next_r1 : List Cond := [Cond.classLink RL 15 "java/lang/IllegalStateException", Cond.methodLink RL 27 yX3_next, Cond.instanceMethod yX3_next, Cond.selects RX3 yX3_next yX3_next, Cond.initialized RX3, Cond.code yX3_next cX3_next 3 (some .boolean), Cond.classLink RX3 61 "java/lang/IllegalStateException", Cond.initialized "java/lang/IllegalStateException", Cond.methodLink RX3 108 yX3_openReaderOrNull, Cond.instanceMethod yX3_openReaderOrNull, Cond.selects RX3 yX3_openReaderOrNull yX3_openReaderOrNull, Cond.code yX3_openReaderOrNull cX3_openReaderOrNull 3 (some (.object "ForkStore$Reader")), Cond.methodLink RX3 97 yX3_readerOrNull, Cond.instanceMethod yX3_readerOrNull, Cond.selects RX3 yX3_readerOrNull yX3_readerOrNull, Cond.code yX3_readerOrNull cX3_readerOrNull 2 (some (.object "ForkStore$Reader")), Cond.fieldLink RX3 25 "ForkStore" "readers" "[LForkStore$Reader;", Cond.methodLink RX3 101 yX2_isOpen, Cond.instanceMethod yX2_isOpen, Cond.selects RX2 yX2_isOpen yX2_isOpen, Cond.initialized RX2, Cond.code yX2_isOpen cX2_isOpen 1 (some .boolean), Cond.fieldLink RX2 18 "ForkStore$Reader" "isOpen" "Z", Cond.methodLink RX3 120 yX2_goOn]
def wsL_next_r2 : List Cond := [Cond.instanceMethod yX2_goOn, Cond.selects RX2 yX2_goOn yX2_goOn, Cond.code yX2_goOn cX2_goOn 1 (some .boolean), Cond.fieldLink RX2 22 "ForkStore$Reader" "place" "I", Cond.fieldLink RX2 12 "ForkStore$Reader" "seen" "LForkStore$Keys;", Cond.methodLink RX2 42 Lib.Math.min.name, Cond.static Lib.Math.min.name, Cond.initialized "java/lang/Math", Cond.code Lib.Math.min.name Lib.Math.min.code 2 (some .int), Cond.methodLink RX2 38 yX1_count, Cond.instanceMethod yX1_count, Cond.selects RX1 yX1_count yX1_count, Cond.initialized RX1, Cond.code yX1_count cX1_count 1 (some .int), Cond.fieldLink RX1 22 "ForkStore$Keys" "count" "I", Cond.methodLink RX2 34 yX1_isPlace, Cond.instanceMethod yX1_isPlace, Cond.selects RX1 yX1_isPlace yX1_isPlace, Cond.code yX1_isPlace cX1_isPlace 2 (some .boolean)]
def wsL_next : List Cond := .codeWith yL_next cL_next 4 (some .int) [(0, 16, 19, 15)] :: ((wsL_next_r1 ++ wsL_next_r2) ++ wsX30 ++ wsX20 ++ wsX10 ++ (vx_atS RX3 65 "java/lang/IllegalStateException" ["java/lang/RuntimeException", "java/lang/Exception"]).filter goodWord)
def wsL_law0_r1 : List Cond := [Cond.classLink RL 8 RX3, Cond.instantiable RX3 3, Cond.initialized RX3, Cond.classLink RL 32 RX4, Cond.instantiable RX4 7, Cond.initialized RX4, Cond.arrayClass .long, Cond.constantLong RL 35 (4294967295), Cond.methodLink RL 31 yX3_init, Cond.instanceMethod yX3_init, Cond.code yX3_init cX3_init 2 none, Cond.methodLink RX3 1 objectInit, Cond.instanceMethod objectInit, Cond.code objectInit ⟨#[0xb1]⟩ 1 none, Cond.classLink RX3 7 RX1, Cond.instantiable RX1 4, Cond.initialized RX1, Cond.fieldLink RX3 10 "ForkStore" "keys" "LForkStore$Keys;", Cond.classLink RX3 16 RX0, Cond.instantiable RX0 1, Cond.initialized RX0, Cond.fieldLink RX3 19 "ForkStore" "counter" "LForkStore$ForkCounter;", Cond.classLink RX3 23 RX2, Cond.fieldLink RX3 25 "ForkStore" "readers" "[LForkStore$Reader;"]
def wsL_law0_r2 : List Cond := [Cond.instantiable RX2 3, Cond.initialized RX2, Cond.instanceMethod yX1_init, Cond.code yX1_init cX1_init 1 none, Cond.methodLink RX1 3 objectInit, Cond.fieldLink RX1 9 "ForkStore$Keys" "words" "[J", Cond.arrayClass .int, Cond.fieldLink RX1 15 "ForkStore$Keys" "sizes" "[I", Cond.fieldLink RX1 19 "ForkStore$Keys" "numbers" "[I", Cond.fieldLink RX1 22 "ForkStore$Keys" "count" "I", Cond.instanceMethod yX0_init, Cond.code yX0_init cX0_init 1 none, Cond.methodLink RX0 3 objectInit, Cond.fieldLink RX0 9 "ForkStore$ForkCounter" "branches" "[I", Cond.instanceMethod yX2_init, Cond.code yX2_init cX2_init 1 none, Cond.methodLink RX2 3 objectInit, Cond.classLink RX2 9 RX1, Cond.fieldLink RX2 12 "ForkStore$Reader" "seen" "LForkStore$Keys;", Cond.fieldLink RX2 18 "ForkStore$Reader" "isOpen" "Z", Cond.fieldLink RX2 22 "ForkStore$Reader" "place" "I", Cond.methodLink RL 34 yX4_init, Cond.instanceMethod yX4_init, Cond.code yX4_init cX4_init 1 none]
def wsL_law0_r3 : List Cond := [Cond.methodLink RX4 1 objectInit, Cond.fieldLink RX4 7 "ForkStoreModel" "counts" "[I", Cond.fieldLink RX4 13 "ForkStoreModel" "words" "[J", Cond.fieldLink RX4 17 "ForkStoreModel" "sizes" "[I", Cond.fieldLink RX4 20 "ForkStoreModel" "values" "[I", Cond.arrayClass .boolean, Cond.fieldLink RX4 23 "ForkStoreModel" "open" "[Z", Cond.fieldLink RX4 27 "ForkStoreModel" "where" "[I", Cond.methodLink RL 37 yL_put, Cond.static yL_put, Cond.initialized RL, Cond.codeWith yL_put cL_put 7 (some .int) [(0, 20, 23, 13), (0, 20, 27, 15)], Cond.classLink RL 13 "java/lang/IllegalArgumentException", Cond.classLink RL 15 "java/lang/IllegalStateException", Cond.methodLink RL 7 yX3_put, Cond.instanceMethod yX3_put, Cond.selects RX3 yX3_put yX3_put, Cond.code yX3_put cX3_put 8 (some .boolean), Cond.classLink RX3 34 "java/lang/IllegalArgumentException", Cond.initialized "java/lang/IllegalArgumentException", Cond.classLink RX3 61 "java/lang/IllegalStateException", Cond.initialized "java/lang/IllegalStateException", Cond.methodLink RX3 30 yX3_isKeySize, Cond.static yX3_isKeySize]
def wsL_law0_r4 : List Cond := [Cond.code yX3_isKeySize cX3_isKeySize 1 (some .boolean), Cond.methodLink RX3 41 yX3_highestBytes, Cond.static yX3_highestBytes, Cond.code yX3_highestBytes cX3_highestBytes 3 (some .long), Cond.constantLong RX3 133 (-1), Cond.methodLink RX3 45 yX1_countBefore, Cond.instanceMethod yX1_countBefore, Cond.selects RX1 yX1_countBefore yX1_countBefore, Cond.code yX1_countBefore cX1_countBefore 6 (some .int), Cond.methodLink RX1 30 yJ13_compareUnsigned_74951, Cond.static yJ13_compareUnsigned_74951, Cond.initialized RJ13, Cond.code yJ13_compareUnsigned_74951 cJ13_compareUnsigned_74951 4 (some .int), Cond.constantLong RJ13 168 (-9223372036854775808), Cond.methodLink RJ13 302 yJ13_compare_74951, Cond.static yJ13_compare_74951, Cond.code yJ13_compare_74951 cJ13_compare_74951 4 (some .int), Cond.methodLink RX3 49 yX1_standsAt, Cond.instanceMethod yX1_standsAt, Cond.selects RX1 yX1_standsAt yX1_standsAt, Cond.code yX1_standsAt cX1_standsAt 5 (some .boolean), Cond.methodLink RX1 26 yX1_isPlace, Cond.instanceMethod yX1_isPlace, Cond.selects RX1 yX1_isPlace yX1_isPlace]
def wsL_law0_r5 : List Cond := [Cond.code yX1_isPlace cX1_isPlace 2 (some .boolean), Cond.methodLink RX3 53 yX1_setNumber, Cond.instanceMethod yX1_setNumber, Cond.selects RX1 yX1_setNumber yX1_setNumber, Cond.code yX1_setNumber cX1_setNumber 3 none, Cond.methodLink RX3 57 yX1_isFull, Cond.instanceMethod yX1_isFull, Cond.selects RX1 yX1_isFull yX1_isFull, Cond.code yX1_isFull cX1_isFull 1 (some .boolean), Cond.methodLink RX3 66 yX1_insert, Cond.instanceMethod yX1_insert, Cond.selects RX1 yX1_insert yX1_insert, Cond.code yX1_insert cX1_insert 7 none, Cond.methodLink RX1 49 yX1_isFull, Cond.methodLink RL 42 yX4_put, Cond.instanceMethod yX4_put, Cond.selects RX4 yX4_put yX4_put, Cond.code yX4_put cX4_put 11 (some .boolean), Cond.fieldLink RX4 30 "ForkStoreModel" "thrown" "I", Cond.methodLink RX4 40 yX4_cut, Cond.static yX4_cut, Cond.code yX4_cut cX4_cut 3 (some .long), Cond.methodLink RX4 44 yX4_place, Cond.instanceMethod yX4_place]
def wsL_law0_r6 : List Cond := [Cond.selects RX4 yX4_place yX4_place, Cond.code yX4_place cX4_place 6 (some .int), Cond.methodLink RX4 36 yX4_order, Cond.instanceMethod yX4_order, Cond.selects RX4 yX4_order yX4_order, Cond.code yX4_order cX4_order 7 (some .int), Cond.constantLong RX4 34 (-9223372036854775808), Cond.methodLink RX4 47 yX4_has, Cond.instanceMethod yX4_has, Cond.selects RX4 yX4_has yX4_has, Cond.code yX4_has cX4_has 6 (some .boolean), Cond.methodLink RX4 51 yX4_copy, Cond.instanceMethod yX4_copy, Cond.selects RX4 yX4_copy yX4_copy, Cond.code yX4_copy cX4_copy 3 none, Cond.methodLink RL 43 yX4_thrown, Cond.instanceMethod yX4_thrown, Cond.selects RX4 yX4_thrown yX4_thrown, Cond.code yX4_thrown cX4_thrown 1 (some .int), Cond.methodLink RL 47 yL_get, Cond.static yL_get, Cond.codeWith yL_get cL_get 6 (some .int) [(0, 11, 14, 13), (0, 11, 18, 21)], Cond.classLink RL 21 "java/util/NoSuchElementException", Cond.methodLink RL 17 yX3_get]
def wsL_law0_r7 : List Cond := [Cond.instanceMethod yX3_get, Cond.selects RX3 yX3_get yX3_get, Cond.code yX3_get cX3_get 7 (some .int), Cond.classLink RX3 70 "java/util/NoSuchElementException", Cond.initialized "java/util/NoSuchElementException", Cond.methodLink RX3 75 yX1_numberAt, Cond.instanceMethod yX1_numberAt, Cond.selects RX1 yX1_numberAt yX1_numberAt, Cond.code yX1_numberAt cX1_numberAt 2 (some .int), Cond.methodLink RL 50 yX4_get, Cond.instanceMethod yX4_get, Cond.selects RX4 yX4_get yX4_get, Cond.code yX4_get cX4_get 8 (some .int), Cond.methodLink RL 51 yX3_remove, Cond.instanceMethod yX3_remove, Cond.selects RX3 yX3_remove yX3_remove, Cond.code yX3_remove cX3_remove 7 (some .boolean), Cond.methodLink RX3 79 yX1_takeOut, Cond.instanceMethod yX1_takeOut, Cond.selects RX1 yX1_takeOut yX1_takeOut, Cond.code yX1_takeOut cX1_takeOut 3 none, Cond.methodLink RL 55 yX4_remove, Cond.instanceMethod yX4_remove, Cond.selects RX4 yX4_remove yX4_remove]
def wsL_law0_r8 : List Cond := [Cond.code yX4_remove cX4_remove 6 (some .boolean), Cond.methodLink RL 56 yX3_size, Cond.instanceMethod yX3_size, Cond.selects RX3 yX3_size yX3_size, Cond.code yX3_size cX3_size 1 (some .int), Cond.methodLink RX3 83 yX1_count, Cond.instanceMethod yX1_count, Cond.selects RX1 yX1_count yX1_count, Cond.code yX1_count cX1_count 1 (some .int), Cond.methodLink RL 59 yX4_size, Cond.instanceMethod yX4_size, Cond.selects RX4 yX4_size yX4_size, Cond.code yX4_size cX4_size 1 (some .int), Cond.methodLink RL 60 yX3_within, Cond.instanceMethod yX3_within, Cond.selects RX3 yX3_within yX3_within, Cond.code yX3_within cX3_within 4 (some .int), Cond.methodLink RX3 87 yX1_countBeginningWith, Cond.instanceMethod yX1_countBeginningWith, Cond.selects RX1 yX1_countBeginningWith yX1_countBeginningWith, Cond.code yX1_countBeginningWith cX1_countBeginningWith 6 (some .int), Cond.static yX3_bytesInCommon, Cond.code yX3_bytesInCommon cX3_bytesInCommon 7 (some .int), Cond.methodLink RX3 141 Lib.Math.min.name]
def wsL_law0_r9 : List Cond := [Cond.static Lib.Math.min.name, Cond.initialized "java/lang/Math", Cond.code Lib.Math.min.name Lib.Math.min.code 2 (some .int), Cond.methodLink RX3 135 yJ13_numberOfLeadingZeros_95d88, Cond.static yJ13_numberOfLeadingZeros_95d88, Cond.code yJ13_numberOfLeadingZeros_95d88 cJ13_numberOfLeadingZeros_95d88 3 (some .int), Cond.methodLink RJ13 308 yJ6_numberOfLeadingZeros_0f7a4, Cond.static yJ6_numberOfLeadingZeros_0f7a4, Cond.initialized RJ6, Cond.code yJ6_numberOfLeadingZeros_0f7a4 cJ6_numberOfLeadingZeros_0f7a4 2 (some .int), Cond.constant RJ6 264 (65536), Cond.methodLink RL 63 yX4_within, Cond.instanceMethod yX4_within, Cond.selects RX4 yX4_within yX4_within, Cond.code yX4_within cX4_within 6 (some .int), Cond.methodLink RX4 55 yX4_begins, Cond.instanceMethod yX4_begins, Cond.selects RX4 yX4_begins yX4_begins, Cond.code yX4_begins cX4_begins 5 (some .boolean), Cond.methodLink RL 64 yX3_rank, Cond.instanceMethod yX3_rank, Cond.selects RX3 yX3_rank yX3_rank, Cond.code yX3_rank cX3_rank 4 (some .int), Cond.methodLink RL 67 yX4_rank]
def wsL_law0_r10 : List Cond := [Cond.instanceMethod yX4_rank, Cond.selects RX4 yX4_rank yX4_rank, Cond.code yX4_rank cX4_rank 4 (some .int), Cond.methodLink RL 68 yX3_forks, Cond.instanceMethod yX3_forks, Cond.selects RX3 yX3_forks yX3_forks, Cond.code yX3_forks cX3_forks 2 (some .int), Cond.methodLink RX3 90 yX0_countOfSize, Cond.instanceMethod yX0_countOfSize, Cond.selects RX0 yX0_countOfSize yX0_countOfSize, Cond.code yX0_countOfSize cX0_countOfSize 6 (some .int), Cond.methodLink RX0 15 yX1_count, Cond.methodLink RX0 21 yX1_forkBehind, Cond.instanceMethod yX1_forkBehind, Cond.selects RX1 yX1_forkBehind yX1_forkBehind, Cond.code yX1_forkBehind cX1_forkBehind 2 (some .int), Cond.methodLink RX0 25 yX0_endLongerThan, Cond.instanceMethod yX0_endLongerThan, Cond.selects RX0 yX0_endLongerThan yX0_endLongerThan, Cond.code yX0_endLongerThan cX0_endLongerThan 5 (some .int), Cond.methodLink RX0 36 Lib.Math.max.name, Cond.static Lib.Math.max.name, Cond.code Lib.Math.max.name Lib.Math.max.code 2 (some .int), Cond.methodLink RX0 41 yX0_sizeOf]
def wsL_law0_r11 : List Cond := [Cond.static yX0_sizeOf, Cond.code yX0_sizeOf cX0_sizeOf 1 (some .int), Cond.methodLink RX0 29 yX1_sizeAt, Cond.instanceMethod yX1_sizeAt, Cond.selects RX1 yX1_sizeAt yX1_sizeAt, Cond.code yX1_sizeAt cX1_sizeAt 2 (some .int), Cond.methodLink RX0 32 yX0_addBranch, Cond.instanceMethod yX0_addBranch, Cond.selects RX0 yX0_addBranch yX0_addBranch, Cond.code yX0_addBranch cX0_addBranch 4 none, Cond.methodLink RL 72 yX4_forks, Cond.instanceMethod yX4_forks, Cond.selects RX4 yX4_forks yX4_forks, Cond.code yX4_forks cX4_forks 9 (some .int), Cond.methodLink RX4 63 yX4_branches, Cond.instanceMethod yX4_branches, Cond.selects RX4 yX4_branches yX4_branches, Cond.code yX4_branches cX4_branches 11 (some .int), Cond.methodLink RX4 59 yX4_part, Cond.static yX4_part, Cond.code yX4_part cX4_part 3 (some .int), Cond.methodLink RX4 66 yX4_sizeOf, Cond.static yX4_sizeOf, Cond.code yX4_sizeOf cX4_sizeOf 1 (some .int)]
def wsL_law0_r12 : List Cond := [Cond.methodLink RL 73 yX3_depth, Cond.instanceMethod yX3_depth, Cond.selects RX3 yX3_depth yX3_depth, Cond.code yX3_depth cX3_depth 4 (some .int), Cond.methodLink RX3 94 yX1_countForksOnTheWayTo, Cond.instanceMethod yX1_countForksOnTheWayTo, Cond.selects RX1 yX1_countForksOnTheWayTo yX1_countForksOnTheWayTo, Cond.code yX1_countForksOnTheWayTo cX1_countForksOnTheWayTo 7 (some .int), Cond.methodLink RX1 40 yX1_forkBehind, Cond.methodLink RX1 44 yJ6_bitCount_0f7a4, Cond.static yJ6_bitCount_0f7a4, Cond.code yJ6_bitCount_0f7a4 cJ6_bitCount_0f7a4 1 (some .int), Cond.constant RJ6 265 (1431655765), Cond.constant RJ6 266 (858993459), Cond.constant RJ6 267 (252645135), Cond.methodLink RL 76 yX4_depth, Cond.instanceMethod yX4_depth, Cond.selects RX4 yX4_depth yX4_depth, Cond.code yX4_depth cX4_depth 6 (some .int), Cond.methodLink RL 77 yX3_open, Cond.instanceMethod yX3_open, Cond.selects RX3 yX3_open yX3_open, Cond.code yX3_open cX3_open 3 (some .boolean), Cond.methodLink RX3 97 yX3_readerOrNull]
def wsL_law0_r13 : List Cond := [Cond.instanceMethod yX3_readerOrNull, Cond.selects RX3 yX3_readerOrNull yX3_readerOrNull, Cond.code yX3_readerOrNull cX3_readerOrNull 2 (some (.object "ForkStore$Reader")), Cond.methodLink RX3 101 yX2_isOpen, Cond.instanceMethod yX2_isOpen, Cond.selects RX2 yX2_isOpen yX2_isOpen, Cond.code yX2_isOpen cX2_isOpen 1 (some .boolean), Cond.methodLink RX3 104 yX2_begin, Cond.instanceMethod yX2_begin, Cond.selects RX2 yX2_begin yX2_begin, Cond.code yX2_begin cX2_begin 2 none, Cond.methodLink RX2 26 yX1_copyFrom, Cond.instanceMethod yX1_copyFrom, Cond.selects RX1 yX1_copyFrom yX1_copyFrom, Cond.code yX1_copyFrom cX1_copyFrom 3 none, Cond.methodLink RL 80 yX4_open, Cond.instanceMethod yX4_open, Cond.selects RX4 yX4_open yX4_open, Cond.code yX4_open cX4_open 3 (some .boolean), Cond.methodLink RL 81 yX3_close, Cond.instanceMethod yX3_close, Cond.selects RX3 yX3_close yX3_close, Cond.code yX3_close cX3_close 3 (some .boolean), Cond.methodLink RX3 108 yX3_openReaderOrNull]
def wsL_law0_r14 : List Cond := [Cond.instanceMethod yX3_openReaderOrNull, Cond.selects RX3 yX3_openReaderOrNull yX3_openReaderOrNull, Cond.code yX3_openReaderOrNull cX3_openReaderOrNull 3 (some (.object "ForkStore$Reader")), Cond.methodLink RX3 111 yX2_end, Cond.instanceMethod yX2_end, Cond.selects RX2 yX2_end yX2_end, Cond.code yX2_end cX2_end 1 none, Cond.methodLink RL 84 yX4_close, Cond.instanceMethod yX4_close, Cond.selects RX4 yX4_close yX4_close, Cond.code yX4_close cX4_close 3 (some .boolean), Cond.methodLink RX4 70 yX4_isOpen, Cond.instanceMethod yX4_isOpen, Cond.selects RX4 yX4_isOpen yX4_isOpen, Cond.code yX4_isOpen cX4_isOpen 2 (some .boolean), Cond.methodLink RL 85 yL_seek, Cond.static yL_seek, Cond.codeWith yL_seek cL_seek 7 (some .int) [(0, 20, 23, 13), (0, 20, 27, 15)], Cond.methodLink RL 23 yX3_seek, Cond.instanceMethod yX3_seek, Cond.selects RX3 yX3_seek yX3_seek, Cond.code yX3_seek cX3_seek 6 (some .boolean), Cond.methodLink RX3 116 yX2_goToOrBehind, Cond.instanceMethod yX2_goToOrBehind]
def wsL_law0_r15 : List Cond := [Cond.selects RX2 yX2_goToOrBehind yX2_goToOrBehind, Cond.code yX2_goToOrBehind cX2_goToOrBehind 4 (some .boolean), Cond.methodLink RX2 30 yX1_countBefore, Cond.methodLink RX2 34 yX1_isPlace, Cond.methodLink RL 88 yX4_seek, Cond.instanceMethod yX4_seek, Cond.selects RX4 yX4_seek yX4_seek, Cond.code yX4_seek cX4_seek 5 (some .boolean), Cond.methodLink RL 89 yL_next, Cond.static yL_next, Cond.codeWith yL_next cL_next 4 (some .int) [(0, 16, 19, 15)], Cond.methodLink RL 27 yX3_next, Cond.instanceMethod yX3_next, Cond.selects RX3 yX3_next yX3_next, Cond.code yX3_next cX3_next 3 (some .boolean), Cond.methodLink RX3 120 yX2_goOn, Cond.instanceMethod yX2_goOn, Cond.selects RX2 yX2_goOn yX2_goOn, Cond.code yX2_goOn cX2_goOn 1 (some .boolean), Cond.methodLink RX2 42 Lib.Math.min.name, Cond.methodLink RX2 38 yX1_count, Cond.methodLink RL 92 yX4_next, Cond.instanceMethod yX4_next, Cond.selects RX4 yX4_next yX4_next]
def wsL_law0_r16 : List Cond := [Cond.code yX4_next cX4_next 2 (some .boolean), Cond.methodLink RL 93 yX3_key, Cond.instanceMethod yX3_key, Cond.selects RX3 yX3_key yX3_key, Cond.code yX3_key cX3_key 3 (some .long), Cond.methodLink RX3 123 yX2_bytesHere, Cond.instanceMethod yX2_bytesHere, Cond.selects RX2 yX2_bytesHere yX2_bytesHere, Cond.code yX2_bytesHere cX2_bytesHere 1 (some .long), Cond.methodLink RX2 48 yX1_wordAt, Cond.instanceMethod yX1_wordAt, Cond.selects RX1 yX1_wordAt yX1_wordAt, Cond.code yX1_wordAt cX1_wordAt 2 (some .long), Cond.methodLink RL 97 yX4_key, Cond.instanceMethod yX4_key, Cond.selects RX4 yX4_key yX4_key, Cond.code yX4_key cX4_key 3 (some .long), Cond.methodLink RX4 74 yX4_on, Cond.instanceMethod yX4_on, Cond.selects RX4 yX4_on yX4_on, Cond.code yX4_on cX4_on 2 (some .int), Cond.methodLink RL 98 yX3_length, Cond.instanceMethod yX3_length, Cond.selects RX3 yX3_length yX3_length]
def wsL_law0_r17 : List Cond := [Cond.code yX3_length cX3_length 3 (some .int), Cond.methodLink RX3 127 yX2_sizeHere, Cond.instanceMethod yX2_sizeHere, Cond.selects RX2 yX2_sizeHere yX2_sizeHere, Cond.code yX2_sizeHere cX2_sizeHere 1 (some .int), Cond.methodLink RX2 52 yX1_sizeAt, Cond.methodLink RL 101 yX4_length, Cond.instanceMethod yX4_length, Cond.selects RX4 yX4_length yX4_length, Cond.code yX4_length cX4_length 3 (some .int), Cond.methodLink RL 102 yX3_value, Cond.instanceMethod yX3_value, Cond.selects RX3 yX3_value yX3_value, Cond.code yX3_value cX3_value 3 (some .int), Cond.methodLink RX3 130 yX2_numberHere, Cond.instanceMethod yX2_numberHere, Cond.selects RX2 yX2_numberHere yX2_numberHere, Cond.code yX2_numberHere cX2_numberHere 1 (some .int), Cond.methodLink RX2 56 yX1_numberAt, Cond.methodLink RL 105 yX4_value, Cond.instanceMethod yX4_value, Cond.selects RX4 yX4_value yX4_value, Cond.code yX4_value cX4_value 3 (some .int)]
def wsL_law0 : List Cond := (wsL_law0_r1 ++ (wsL_law0_r2 ++ (wsL_law0_r3 ++ (wsL_law0_r4 ++ (wsL_law0_r5 ++ (wsL_law0_r6 ++ (wsL_law0_r7 ++ (wsL_law0_r8 ++ (wsL_law0_r9 ++ (wsL_law0_r10 ++ (wsL_law0_r11 ++ (wsL_law0_r12 ++ (wsL_law0_r13 ++ (wsL_law0_r14 ++ (wsL_law0_r15 ++ (wsL_law0_r16 ++ wsL_law0_r17)))))))))))))))) ++ wsX30 ++ wsX40 ++ wsX10 ++ wsX00 ++ wsX20 ++ ([] : List Cond)
def wsL_law : List Cond := wsL_law0 ++ (vx_atS RX3 38 "java/lang/IllegalArgumentException" ["java/lang/RuntimeException", "java/lang/Exception"]).filter goodWord ++ (vx_atS RX3 65 "java/lang/IllegalStateException" ["java/lang/RuntimeException", "java/lang/Exception"]).filter goodWord ++ (vx_atS RX3 74 "java/util/NoSuchElementException" ["java/lang/RuntimeException", "java/lang/Exception"]).filter goodWord
abbrev vwCl : List vw_C := [(RX0, TX0, 1), (RX1, TX1, 4), (RX2, TX2, 3), (RX3, TX3, 3), (RX4, TX4, 7)]
end
section
set_option maxRecDepth 20000 in
theorem ggX0_countOfSize_X1_count : GoodIn wsX0_countOfSize wsX1_count := goodIn_r _ [5, 6, 53, 54, 55, 56] (by decide +kernel) (by decide +kernel)
set_option maxRecDepth 20000 in
theorem gX0_countOfSize_X1_count : GoodIn wsX0_countOfSize (wsV RX0 15 RX1 yX1_count wsX1_count) := goodIn_app (goodIn_of _ (by decide +kernel)) ggX0_countOfSize_X1_count
set_option maxRecDepth 20000 in
theorem ggX0_countOfSize_X1_forkBehind : GoodIn wsX0_countOfSize wsX1_forkBehind := goodIn_r _ [10, 11, 12, 13, 14, 15, 4, 16, 6, 17, 18, 19, 20, 21, 22, 23, 24, 25, 26, 27, 28, 29, 30, 31, 32, 53, 54, 55, 56] (by decide +kernel) (by decide +kernel)
set_option maxRecDepth 20000 in
theorem gX0_countOfSize_X1_forkBehind : GoodIn wsX0_countOfSize (wsV RX0 21 RX1 yX1_forkBehind wsX1_forkBehind) := goodIn_app (goodIn_of _ (by decide +kernel)) ggX0_countOfSize_X1_forkBehind
set_option maxRecDepth 20000 in
theorem ggX0_countOfSize_X0_endLongerThan : GoodIn wsX0_countOfSize wsX0_endLongerThan := goodIn_r _ [37, 38, 39, 22, 40, 41, 42, 43, 36, 44, 57] (by decide +kernel) (by decide +kernel)
set_option maxRecDepth 20000 in
theorem gX0_countOfSize_X0_endLongerThan : GoodIn wsX0_countOfSize (wsV RX0 25 RX0 yX0_endLongerThan wsX0_endLongerThan) := goodIn_app (goodIn_of _ (by decide +kernel)) ggX0_countOfSize_X0_endLongerThan
set_option maxRecDepth 20000 in
theorem ggX0_countOfSize_X1_sizeAt : GoodIn wsX0_countOfSize wsX1_sizeAt := goodIn_r _ [48, 12, 13, 14, 15, 4, 16, 6, 53, 54, 55, 56] (by decide +kernel) (by decide +kernel)
set_option maxRecDepth 20000 in
theorem gX0_countOfSize_X1_sizeAt : GoodIn wsX0_countOfSize (wsV RX0 29 RX1 yX1_sizeAt wsX1_sizeAt) := goodIn_app (goodIn_of _ (by decide +kernel)) ggX0_countOfSize_X1_sizeAt
set_option maxRecDepth 20000 in
theorem ggX0_countOfSize_X0_addBranch : GoodIn wsX0_countOfSize wsX0_addBranch := goodIn_r _ [52, 41, 57] (by decide +kernel) (by decide +kernel)
set_option maxRecDepth 20000 in
theorem gX0_countOfSize_X0_addBranch : GoodIn wsX0_countOfSize (wsV RX0 32 RX0 yX0_addBranch wsX0_addBranch) := goodIn_app (goodIn_of _ (by decide +kernel)) ggX0_countOfSize_X0_addBranch
set_option maxRecDepth 20000 in
theorem ggX0_endLongerThan_X0_sizeOf : GoodIn wsX0_endLongerThan wsX0_sizeOf := goodIn_r _ [9] (by decide +kernel) (by decide +kernel)
set_option maxRecDepth 20000 in
theorem gX0_endLongerThan_X0_sizeOf : GoodIn wsX0_endLongerThan (va_wsS RX0 41 yX0_sizeOf wsX0_sizeOf) := goodIn_app (goodIn_of _ (by decide +kernel)) ggX0_endLongerThan_X0_sizeOf
set_option maxRecDepth 20000 in
theorem ggX1_standsAt_X1_isPlace : GoodIn wsX1_standsAt wsX1_isPlace := goodIn_r _ [7, 8, 9, 10, 11, 12] (by decide +kernel) (by decide +kernel)
set_option maxRecDepth 20000 in
theorem gX1_standsAt_X1_isPlace : GoodIn wsX1_standsAt (wsV RX1 26 RX1 yX1_isPlace wsX1_isPlace) := goodIn_app (goodIn_of _ (by decide +kernel)) ggX1_standsAt_X1_isPlace
set_option maxRecDepth 20000 in
theorem ggX1_wordAt_X1_isPlace : GoodIn wsX1_wordAt wsX1_isPlace := goodIn_r _ [6, 7, 8, 9, 10, 11] (by decide +kernel) (by decide +kernel)
set_option maxRecDepth 20000 in
theorem gX1_wordAt_X1_isPlace : GoodIn wsX1_wordAt (wsV RX1 26 RX1 yX1_isPlace wsX1_isPlace) := goodIn_app (goodIn_of _ (by decide +kernel)) ggX1_wordAt_X1_isPlace
set_option maxRecDepth 20000 in
theorem ggX1_sizeAt_X1_isPlace : GoodIn wsX1_sizeAt wsX1_isPlace := goodIn_r _ [6, 7, 8, 9, 10, 11] (by decide +kernel) (by decide +kernel)
set_option maxRecDepth 20000 in
theorem gX1_sizeAt_X1_isPlace : GoodIn wsX1_sizeAt (wsV RX1 26 RX1 yX1_isPlace wsX1_isPlace) := goodIn_app (goodIn_of _ (by decide +kernel)) ggX1_sizeAt_X1_isPlace
set_option maxRecDepth 20000 in
theorem ggX1_numberAt_X1_isPlace : GoodIn wsX1_numberAt wsX1_isPlace := goodIn_r _ [6, 7, 8, 9, 10, 11] (by decide +kernel) (by decide +kernel)
set_option maxRecDepth 20000 in
theorem gX1_numberAt_X1_isPlace : GoodIn wsX1_numberAt (wsV RX1 26 RX1 yX1_isPlace wsX1_isPlace) := goodIn_app (goodIn_of _ (by decide +kernel)) ggX1_numberAt_X1_isPlace
set_option maxRecDepth 20000 in
theorem ggX1_setNumber_X1_isPlace : GoodIn wsX1_setNumber wsX1_isPlace := goodIn_r _ [6, 7, 8, 9, 10, 11] (by decide +kernel) (by decide +kernel)
set_option maxRecDepth 20000 in
theorem gX1_setNumber_X1_isPlace : GoodIn wsX1_setNumber (wsV RX1 26 RX1 yX1_isPlace wsX1_isPlace) := goodIn_app (goodIn_of _ (by decide +kernel)) ggX1_setNumber_X1_isPlace
set_option maxRecDepth 20000 in
theorem ggX1_countBefore_J13_compareUnsigned_74951 : GoodIn wsX1_countBefore wsJ13_compareUnsigned_74951 := goodIn_r _ [7, 8, 9, 10, 6, 11] (by decide +kernel) (by decide +kernel)
set_option maxRecDepth 20000 in
theorem gX1_countBefore_J13_compareUnsigned_74951 : GoodIn wsX1_countBefore (va_wsS RX1 30 yJ13_compareUnsigned_74951 wsJ13_compareUnsigned_74951) := goodIn_app (goodIn_of _ (by decide +kernel)) ggX1_countBefore_J13_compareUnsigned_74951
set_option maxRecDepth 20000 in
theorem ggX1_countBeginningWith_X3_bytesInCommon : GoodIn wsX1_countBeginningWith wsX3_bytesInCommon := goodIn_r _ [6, 7, 8, 9, 10, 11, 12, 13, 14, 15, 16, 17, 18, 19] (by decide +kernel) (by decide +kernel)
set_option maxRecDepth 20000 in
theorem gX1_countBeginningWith_X3_bytesInCommon_n36 : GoodIn wsX1_countBeginningWith (wsX3_bytesInCommon) := ggX1_countBeginningWith_X3_bytesInCommon
set_option maxRecDepth 20000 in
theorem ggX1_forkBehind_X1_isPlace : GoodIn wsX1_forkBehind wsX1_isPlace := goodIn_r _ [7, 8, 25, 26, 27, 28] (by decide +kernel) (by decide +kernel)
set_option maxRecDepth 20000 in
theorem gX1_forkBehind_X1_isPlace : GoodIn wsX1_forkBehind (wsV RX1 26 RX1 yX1_isPlace wsX1_isPlace) := goodIn_app (goodIn_of _ (by decide +kernel)) ggX1_forkBehind_X1_isPlace
set_option maxRecDepth 20000 in
theorem ggX1_forkBehind_X3_bytesInCommon : GoodIn wsX1_forkBehind wsX3_bytesInCommon := goodIn_r _ [11, 12, 13, 14, 15, 16, 17, 18, 19, 20, 21, 22, 23, 24] (by decide +kernel) (by decide +kernel)
set_option maxRecDepth 20000 in
theorem gX1_forkBehind_X3_bytesInCommon_n36 : GoodIn wsX1_forkBehind (wsX3_bytesInCommon) := ggX1_forkBehind_X3_bytesInCommon
set_option maxRecDepth 20000 in
theorem ggX1_countForksOnTheWayTo_X1_forkBehind : GoodIn wsX1_countForksOnTheWayTo wsX1_forkBehind := goodIn_r _ [8, 2, 3, 9, 10, 11, 7, 12, 1, 13, 14, 15, 16, 17, 18, 19, 20, 21, 22, 23, 24, 25, 26, 27, 28, 35, 36, 37, 38] (by decide +kernel) (by decide +kernel)
set_option maxRecDepth 20000 in
theorem gX1_countForksOnTheWayTo_X1_forkBehind : GoodIn wsX1_countForksOnTheWayTo (wsV RX1 40 RX1 yX1_forkBehind wsX1_forkBehind) := goodIn_app (goodIn_of _ (by decide +kernel)) ggX1_countForksOnTheWayTo_X1_forkBehind
set_option maxRecDepth 20000 in
theorem ggX1_countForksOnTheWayTo_X3_bytesInCommon : GoodIn wsX1_countForksOnTheWayTo wsX3_bytesInCommon := goodIn_r _ [15, 16, 17, 18, 19, 20, 21, 22, 23, 24, 25, 26, 27, 28] (by decide +kernel) (by decide +kernel)
set_option maxRecDepth 20000 in
theorem gX1_countForksOnTheWayTo_X3_bytesInCommon_n36 : GoodIn wsX1_countForksOnTheWayTo (wsX3_bytesInCommon) := ggX1_countForksOnTheWayTo_X3_bytesInCommon
set_option maxRecDepth 20000 in
theorem ggX1_countForksOnTheWayTo_J6_bitCount_0f7a4 : GoodIn wsX1_countForksOnTheWayTo wsJ6_bitCount_0f7a4 := goodIn_r _ [31, 32, 33, 34] (by decide +kernel) (by decide +kernel)
set_option maxRecDepth 20000 in
theorem gX1_countForksOnTheWayTo_J6_bitCount_0f7a4 : GoodIn wsX1_countForksOnTheWayTo (va_wsS RX1 44 yJ6_bitCount_0f7a4 wsJ6_bitCount_0f7a4) := goodIn_app (goodIn_of _ (by decide +kernel)) ggX1_countForksOnTheWayTo_J6_bitCount_0f7a4
set_option maxRecDepth 20000 in
theorem ggX1_insert_X1_isFull : GoodIn wsX1_insert wsX1_isFull := goodIn_r _ [9, 1, 10, 11, 12, 13] (by decide +kernel) (by decide +kernel)
set_option maxRecDepth 20000 in
theorem gX1_insert_X1_isFull : GoodIn wsX1_insert (wsV RX1 49 RX1 yX1_isFull wsX1_isFull) := goodIn_app (goodIn_of _ (by decide +kernel)) ggX1_insert_X1_isFull
set_option maxRecDepth 20000 in
theorem ggX1_takeOut_X1_isPlace : GoodIn wsX1_takeOut wsX1_isPlace := goodIn_r _ [9, 1, 10, 11, 12, 13] (by decide +kernel) (by decide +kernel)
set_option maxRecDepth 20000 in
theorem gX1_takeOut_X1_isPlace : GoodIn wsX1_takeOut (wsV RX1 26 RX1 yX1_isPlace wsX1_isPlace) := goodIn_app (goodIn_of _ (by decide +kernel)) ggX1_takeOut_X1_isPlace
set_option maxRecDepth 20000 in
theorem ggX2_init_X1_init : GoodIn wsX2_init wsX1_init := goodIn_r _ [11, 12, 2, 3, 13, 14, 15, 16, 17, 18, 19, 20, 21, 22] (by decide +kernel) (by decide +kernel)
set_option maxRecDepth 20000 in
theorem gX2_init_X1_init_n11 : GoodIn wsX2_init (wsX1_init) := ggX2_init_X1_init
set_option maxRecDepth 20000 in
theorem ggX2_begin_X1_copyFrom : GoodIn wsX2_begin wsX1_copyFrom := goodIn_r _ [8, 9, 10, 11, 12, 16, 17, 18, 19] (by decide +kernel) (by decide +kernel)
set_option maxRecDepth 20000 in
theorem gX2_begin_X1_copyFrom : GoodIn wsX2_begin (wsV RX2 26 RX1 yX1_copyFrom wsX1_copyFrom) := goodIn_app (goodIn_of _ (by decide +kernel)) ggX2_begin_X1_copyFrom
set_option maxRecDepth 20000 in
theorem ggX2_goToOrBehind_X1_countBefore : GoodIn wsX2_goToOrBehind wsX1_countBefore := goodIn_r _ [7, 8, 9, 10, 11, 12, 13, 14, 15, 16, 17, 18, 26, 27, 28, 29] (by decide +kernel) (by decide +kernel)
set_option maxRecDepth 20000 in
theorem gX2_goToOrBehind_X1_countBefore : GoodIn wsX2_goToOrBehind (wsV RX2 30 RX1 yX1_countBefore wsX1_countBefore) := goodIn_app (goodIn_of _ (by decide +kernel)) ggX2_goToOrBehind_X1_countBefore
set_option maxRecDepth 20000 in
theorem ggX2_goToOrBehind_X1_isPlace : GoodIn wsX2_goToOrBehind wsX1_isPlace := goodIn_r _ [22, 8, 26, 27, 28, 29] (by decide +kernel) (by decide +kernel)
set_option maxRecDepth 20000 in
theorem gX2_goToOrBehind_X1_isPlace : GoodIn wsX2_goToOrBehind (wsV RX2 34 RX1 yX1_isPlace wsX1_isPlace) := goodIn_app (goodIn_of _ (by decide +kernel)) ggX2_goToOrBehind_X1_isPlace
set_option maxRecDepth 20000 in
theorem ggX2_goOn_X1_count : GoodIn wsX2_goOn wsX1_count := goodIn_r _ [11, 12, 20, 21, 22, 23] (by decide +kernel) (by decide +kernel)
set_option maxRecDepth 20000 in
theorem gX2_goOn_X1_count : GoodIn wsX2_goOn (wsV RX2 38 RX1 yX1_count wsX1_count) := goodIn_app (goodIn_of _ (by decide +kernel)) ggX2_goOn_X1_count
set_option maxRecDepth 20000 in
theorem ggX2_goOn_X1_isPlace : GoodIn wsX2_goOn wsX1_isPlace := goodIn_r _ [16, 12, 20, 21, 22, 23] (by decide +kernel) (by decide +kernel)
set_option maxRecDepth 20000 in
theorem gX2_goOn_X1_isPlace : GoodIn wsX2_goOn (wsV RX2 34 RX1 yX1_isPlace wsX1_isPlace) := goodIn_app (goodIn_of _ (by decide +kernel)) ggX2_goOn_X1_isPlace
set_option maxRecDepth 20000 in
theorem ggX2_bytesHere_X1_wordAt : GoodIn wsX2_bytesHere wsX1_wordAt := goodIn_r _ [7, 8, 9, 10, 11, 6, 12, 13, 17, 18, 19, 20] (by decide +kernel) (by decide +kernel)
set_option maxRecDepth 20000 in
theorem gX2_bytesHere_X1_wordAt : GoodIn wsX2_bytesHere (wsV RX2 48 RX1 yX1_wordAt wsX1_wordAt) := goodIn_app (goodIn_of _ (by decide +kernel)) ggX2_bytesHere_X1_wordAt
set_option maxRecDepth 20000 in
theorem ggX2_sizeHere_X1_sizeAt : GoodIn wsX2_sizeHere wsX1_sizeAt := goodIn_r _ [7, 8, 9, 10, 11, 6, 12, 13, 17, 18, 19, 20] (by decide +kernel) (by decide +kernel)
set_option maxRecDepth 20000 in
theorem gX2_sizeHere_X1_sizeAt : GoodIn wsX2_sizeHere (wsV RX2 52 RX1 yX1_sizeAt wsX1_sizeAt) := goodIn_app (goodIn_of _ (by decide +kernel)) ggX2_sizeHere_X1_sizeAt
set_option maxRecDepth 20000 in
theorem ggX2_numberHere_X1_numberAt : GoodIn wsX2_numberHere wsX1_numberAt := goodIn_r _ [7, 8, 9, 10, 11, 6, 12, 13, 17, 18, 19, 20] (by decide +kernel) (by decide +kernel)
set_option maxRecDepth 20000 in
theorem gX2_numberHere_X1_numberAt : GoodIn wsX2_numberHere (wsV RX2 56 RX1 yX1_numberAt wsX1_numberAt) := goodIn_app (goodIn_of _ (by decide +kernel)) ggX2_numberHere_X1_numberAt
set_option maxRecDepth 20000 in
theorem ggJ13_compareUnsigned_74951_J13_compare_74951 : GoodIn wsJ13_compareUnsigned_74951 wsJ13_compare_74951 := goodIn_r _ [5] (by decide +kernel) (by decide +kernel)
set_option maxRecDepth 20000 in
theorem gJ13_compareUnsigned_74951_J13_compare_74951 : GoodIn wsJ13_compareUnsigned_74951 (va_wsS RJ13 302 yJ13_compare_74951 wsJ13_compare_74951) := goodIn_app (goodIn_of _ (by decide +kernel)) ggJ13_compareUnsigned_74951_J13_compare_74951
set_option maxRecDepth 20000 in
theorem ggJ13_numberOfLeadingZeros_95d88_J6_numberOfLeadingZeros_0f7a4 : GoodIn wsJ13_numberOfLeadingZeros_95d88 wsJ6_numberOfLeadingZeros_0f7a4 := goodIn_r _ [4, 5] (by decide +kernel) (by decide +kernel)
set_option maxRecDepth 20000 in
theorem gJ13_numberOfLeadingZeros_95d88_J6_numberOfLeadingZeros_0f7a4 : GoodIn wsJ13_numberOfLeadingZeros_95d88 (va_wsS RJ13 308 yJ6_numberOfLeadingZeros_0f7a4 wsJ6_numberOfLeadingZeros_0f7a4) := goodIn_app (goodIn_of _ (by decide +kernel)) ggJ13_numberOfLeadingZeros_95d88_J6_numberOfLeadingZeros_0f7a4
end
section
set_option maxRecDepth 20000 in
theorem ggX3_init_X1_init : GoodIn wsX3_init wsX1_init := goodIn_r _ [17, 18, 2, 3, 19, 20, 21, 22, 23, 24, 36, 37, 38, 39] (by decide +kernel) (by decide +kernel)
set_option maxRecDepth 20000 in
theorem gX3_init_X1_init_n9 : GoodIn wsX3_init (wsX1_init) := ggX3_init_X1_init
set_option maxRecDepth 20000 in
theorem ggX3_init_X0_init : GoodIn wsX3_init wsX0_init := goodIn_r _ [26, 27, 2, 3, 21, 28, 43] (by decide +kernel) (by decide +kernel)
set_option maxRecDepth 20000 in
theorem gX3_init_X0_init_n18 : GoodIn wsX3_init (wsX0_init) := ggX3_init_X0_init
set_option maxRecDepth 20000 in
theorem ggX3_init_X2_init : GoodIn wsX3_init wsX2_init := goodIn_r _ [30, 31, 2, 3, 32, 5, 6, 33, 34, 35, 16, 17, 18, 19, 20, 21, 22, 23, 24, 36, 37, 38, 39, 44, 45, 46] (by decide +kernel) (by decide +kernel)
set_option maxRecDepth 20000 in
theorem gX3_init_X2_init_n29 : GoodIn wsX3_init (wsX2_init) := ggX3_init_X2_init
set_option maxRecDepth 20000 in
theorem ggX3_put_X3_isKeySize : GoodIn wsX3_put wsX3_isKeySize := goodIn_r _ [9] (by decide +kernel) (by decide +kernel)
set_option maxRecDepth 20000 in
theorem gX3_put_X3_isKeySize : GoodIn wsX3_put (va_wsS RX3 30 yX3_isKeySize wsX3_isKeySize) := goodIn_app (goodIn_of _ (by decide +kernel)) ggX3_put_X3_isKeySize
set_option maxRecDepth 20000 in
theorem ggX3_put_X3_highestBytes : GoodIn wsX3_put wsX3_highestBytes := goodIn_r _ [12, 13] (by decide +kernel) (by decide +kernel)
set_option maxRecDepth 20000 in
theorem gX3_put_X3_highestBytes : GoodIn wsX3_put (va_wsS RX3 41 yX3_highestBytes wsX3_highestBytes) := goodIn_app (goodIn_of _ (by decide +kernel)) ggX3_put_X3_highestBytes
set_option maxRecDepth 20000 in
theorem ggX3_put_X1_countBefore : GoodIn wsX3_put wsX1_countBefore := goodIn_r _ [18, 19, 20, 21, 22, 23, 24, 25, 26, 27, 28, 29, 55, 56, 57, 58] (by decide +kernel) (by decide +kernel)
set_option maxRecDepth 20000 in
theorem gX3_put_X1_countBefore : GoodIn wsX3_put (wsV RX3 45 RX1 yX1_countBefore wsX1_countBefore) := goodIn_app (goodIn_of _ (by decide +kernel)) ggX3_put_X1_countBefore
set_option maxRecDepth 20000 in
theorem ggX3_put_X1_standsAt : GoodIn wsX3_put wsX1_standsAt := goodIn_r _ [33, 20, 21, 34, 35, 36, 17, 37, 19, 55, 56, 57, 58] (by decide +kernel) (by decide +kernel)
set_option maxRecDepth 20000 in
theorem gX3_put_X1_standsAt : GoodIn wsX3_put (wsV RX3 49 RX1 yX1_standsAt wsX1_standsAt) := goodIn_app (goodIn_of _ (by decide +kernel)) ggX3_put_X1_standsAt
set_option maxRecDepth 20000 in
theorem ggX3_put_X1_setNumber : GoodIn wsX3_put wsX1_setNumber := goodIn_r _ [41, 42, 34, 35, 36, 17, 37, 19, 55, 56, 57, 58] (by decide +kernel) (by decide +kernel)
set_option maxRecDepth 20000 in
theorem gX3_put_X1_setNumber : GoodIn wsX3_put (wsV RX3 53 RX1 yX1_setNumber wsX1_setNumber) := goodIn_app (goodIn_of _ (by decide +kernel)) ggX3_put_X1_setNumber
set_option maxRecDepth 20000 in
theorem ggX3_put_X1_isFull : GoodIn wsX3_put wsX1_isFull := goodIn_r _ [46, 19, 55, 56, 57, 58] (by decide +kernel) (by decide +kernel)
set_option maxRecDepth 20000 in
theorem gX3_put_X1_isFull : GoodIn wsX3_put (wsV RX3 57 RX1 yX1_isFull wsX1_isFull) := goodIn_app (goodIn_of _ (by decide +kernel)) ggX3_put_X1_isFull
set_option maxRecDepth 20000 in
theorem ggX3_put_X1_insert : GoodIn wsX3_put wsX1_insert := goodIn_r _ [50, 19, 20, 21, 42, 51, 44, 45, 17, 46, 55, 56, 57, 58] (by decide +kernel) (by decide +kernel)
set_option maxRecDepth 20000 in
theorem gX3_put_X1_insert : GoodIn wsX3_put (wsV RX3 66 RX1 yX1_insert wsX1_insert) := goodIn_app (goodIn_of _ (by decide +kernel)) ggX3_put_X1_insert
set_option maxRecDepth 20000 in
theorem ggX3_get_X3_isKeySize : GoodIn wsX3_get wsX3_isKeySize := goodIn_r _ [9] (by decide +kernel) (by decide +kernel)
set_option maxRecDepth 20000 in
theorem gX3_get_X3_isKeySize : GoodIn wsX3_get (va_wsS RX3 30 yX3_isKeySize wsX3_isKeySize) := goodIn_app (goodIn_of _ (by decide +kernel)) ggX3_get_X3_isKeySize
set_option maxRecDepth 20000 in
theorem ggX3_get_X3_highestBytes : GoodIn wsX3_get wsX3_highestBytes := goodIn_r _ [12, 13] (by decide +kernel) (by decide +kernel)
set_option maxRecDepth 20000 in
theorem gX3_get_X3_highestBytes : GoodIn wsX3_get (va_wsS RX3 41 yX3_highestBytes wsX3_highestBytes) := goodIn_app (goodIn_of _ (by decide +kernel)) ggX3_get_X3_highestBytes
set_option maxRecDepth 20000 in
theorem ggX3_get_X1_countBefore : GoodIn wsX3_get wsX1_countBefore := goodIn_r _ [18, 19, 20, 21, 22, 23, 24, 25, 26, 27, 28, 29, 46, 47, 48, 49] (by decide +kernel) (by decide +kernel)
set_option maxRecDepth 20000 in
theorem gX3_get_X1_countBefore : GoodIn wsX3_get (wsV RX3 45 RX1 yX1_countBefore wsX1_countBefore) := goodIn_app (goodIn_of _ (by decide +kernel)) ggX3_get_X1_countBefore
set_option maxRecDepth 20000 in
theorem ggX3_get_X1_standsAt : GoodIn wsX3_get wsX1_standsAt := goodIn_r _ [33, 20, 21, 34, 35, 36, 17, 37, 19, 46, 47, 48, 49] (by decide +kernel) (by decide +kernel)
set_option maxRecDepth 20000 in
theorem gX3_get_X1_standsAt : GoodIn wsX3_get (wsV RX3 49 RX1 yX1_standsAt wsX1_standsAt) := goodIn_app (goodIn_of _ (by decide +kernel)) ggX3_get_X1_standsAt
set_option maxRecDepth 20000 in
theorem ggX3_get_X1_numberAt : GoodIn wsX3_get wsX1_numberAt := goodIn_r _ [41, 42, 34, 35, 36, 17, 37, 19, 46, 47, 48, 49] (by decide +kernel) (by decide +kernel)
set_option maxRecDepth 20000 in
theorem gX3_get_X1_numberAt : GoodIn wsX3_get (wsV RX3 75 RX1 yX1_numberAt wsX1_numberAt) := goodIn_app (goodIn_of _ (by decide +kernel)) ggX3_get_X1_numberAt
set_option maxRecDepth 20000 in
theorem ggX3_remove_X3_isKeySize : GoodIn wsX3_remove wsX3_isKeySize := goodIn_r _ [5] (by decide +kernel) (by decide +kernel)
set_option maxRecDepth 20000 in
theorem gX3_remove_X3_isKeySize : GoodIn wsX3_remove (va_wsS RX3 30 yX3_isKeySize wsX3_isKeySize) := goodIn_app (goodIn_of _ (by decide +kernel)) ggX3_remove_X3_isKeySize
set_option maxRecDepth 20000 in
theorem ggX3_remove_X3_highestBytes : GoodIn wsX3_remove wsX3_highestBytes := goodIn_r _ [8, 9] (by decide +kernel) (by decide +kernel)
set_option maxRecDepth 20000 in
theorem gX3_remove_X3_highestBytes : GoodIn wsX3_remove (va_wsS RX3 41 yX3_highestBytes wsX3_highestBytes) := goodIn_app (goodIn_of _ (by decide +kernel)) ggX3_remove_X3_highestBytes
set_option maxRecDepth 20000 in
theorem ggX3_remove_X1_countBefore : GoodIn wsX3_remove wsX1_countBefore := goodIn_r _ [14, 15, 16, 17, 18, 19, 20, 21, 22, 23, 24, 25, 42, 43, 44, 45] (by decide +kernel) (by decide +kernel)
set_option maxRecDepth 20000 in
theorem gX3_remove_X1_countBefore : GoodIn wsX3_remove (wsV RX3 45 RX1 yX1_countBefore wsX1_countBefore) := goodIn_app (goodIn_of _ (by decide +kernel)) ggX3_remove_X1_countBefore
set_option maxRecDepth 20000 in
theorem ggX3_remove_X1_standsAt : GoodIn wsX3_remove wsX1_standsAt := goodIn_r _ [29, 16, 17, 30, 31, 32, 13, 33, 15, 42, 43, 44, 45] (by decide +kernel) (by decide +kernel)
set_option maxRecDepth 20000 in
theorem gX3_remove_X1_standsAt : GoodIn wsX3_remove (wsV RX3 49 RX1 yX1_standsAt wsX1_standsAt) := goodIn_app (goodIn_of _ (by decide +kernel)) ggX3_remove_X1_standsAt
set_option maxRecDepth 20000 in
theorem ggX3_remove_X1_takeOut : GoodIn wsX3_remove wsX1_takeOut := goodIn_r _ [37, 15, 16, 17, 38, 30, 31, 32, 13, 33, 42, 43, 44, 45] (by decide +kernel) (by decide +kernel)
set_option maxRecDepth 20000 in
theorem gX3_remove_X1_takeOut : GoodIn wsX3_remove (wsV RX3 79 RX1 yX1_takeOut wsX1_takeOut) := goodIn_app (goodIn_of _ (by decide +kernel)) ggX3_remove_X1_takeOut
set_option maxRecDepth 20000 in
theorem ggX3_size_X1_count : GoodIn wsX3_size wsX1_count := goodIn_r _ [6, 7, 11, 12, 13, 14] (by decide +kernel) (by decide +kernel)
set_option maxRecDepth 20000 in
theorem gX3_size_X1_count : GoodIn wsX3_size (wsV RX3 83 RX1 yX1_count wsX1_count) := goodIn_app (goodIn_of _ (by decide +kernel)) ggX3_size_X1_count
set_option maxRecDepth 20000 in
theorem ggX3_within_X3_isKeySize : GoodIn wsX3_within wsX3_isKeySize := goodIn_r _ [5] (by decide +kernel) (by decide +kernel)
set_option maxRecDepth 20000 in
theorem gX3_within_X3_isKeySize : GoodIn wsX3_within (va_wsS RX3 30 yX3_isKeySize wsX3_isKeySize) := goodIn_app (goodIn_of _ (by decide +kernel)) ggX3_within_X3_isKeySize
set_option maxRecDepth 20000 in
theorem ggX3_within_X3_highestBytes : GoodIn wsX3_within wsX3_highestBytes := goodIn_r _ [8, 9] (by decide +kernel) (by decide +kernel)
set_option maxRecDepth 20000 in
theorem gX3_within_X3_highestBytes : GoodIn wsX3_within (va_wsS RX3 41 yX3_highestBytes wsX3_highestBytes) := goodIn_app (goodIn_of _ (by decide +kernel)) ggX3_within_X3_highestBytes
set_option maxRecDepth 20000 in
theorem ggX3_within_X1_countBeginningWith : GoodIn wsX3_within wsX1_countBeginningWith := goodIn_r _ [14, 15, 16, 17, 18, 4, 19, 20, 21, 22, 23, 24, 25, 26, 27, 28, 29, 30, 31, 32, 36, 37, 38, 39] (by decide +kernel) (by decide +kernel)
set_option maxRecDepth 20000 in
theorem gX3_within_X1_countBeginningWith : GoodIn wsX3_within (wsV RX3 87 RX1 yX1_countBeginningWith wsX1_countBeginningWith) := goodIn_app (goodIn_of _ (by decide +kernel)) ggX3_within_X1_countBeginningWith
set_option maxRecDepth 20000 in
theorem ggX3_rank_X3_isKeySize : GoodIn wsX3_rank wsX3_isKeySize := goodIn_r _ [5] (by decide +kernel) (by decide +kernel)
set_option maxRecDepth 20000 in
theorem gX3_rank_X3_isKeySize : GoodIn wsX3_rank (va_wsS RX3 30 yX3_isKeySize wsX3_isKeySize) := goodIn_app (goodIn_of _ (by decide +kernel)) ggX3_rank_X3_isKeySize
set_option maxRecDepth 20000 in
theorem ggX3_rank_X3_highestBytes : GoodIn wsX3_rank wsX3_highestBytes := goodIn_r _ [8, 9] (by decide +kernel) (by decide +kernel)
set_option maxRecDepth 20000 in
theorem gX3_rank_X3_highestBytes : GoodIn wsX3_rank (va_wsS RX3 41 yX3_highestBytes wsX3_highestBytes) := goodIn_app (goodIn_of _ (by decide +kernel)) ggX3_rank_X3_highestBytes
set_option maxRecDepth 20000 in
theorem ggX3_rank_X1_countBefore : GoodIn wsX3_rank wsX1_countBefore := goodIn_r _ [14, 15, 16, 17, 18, 19, 20, 21, 22, 23, 24, 25, 29, 30, 31, 32] (by decide +kernel) (by decide +kernel)
set_option maxRecDepth 20000 in
theorem gX3_rank_X1_countBefore : GoodIn wsX3_rank (wsV RX3 45 RX1 yX1_countBefore wsX1_countBefore) := goodIn_app (goodIn_of _ (by decide +kernel)) ggX3_rank_X1_countBefore
set_option maxRecDepth 20000 in
theorem ggX3_forks_X0_countOfSize : GoodIn wsX3_forks wsX0_countOfSize := goodIn_r _ [7, 8, 9, 10, 11, 12, 13, 14, 15, 16, 17, 18, 19, 20, 21, 22, 23, 24, 25, 26, 27, 28, 29, 30, 31, 32, 33, 34, 35, 36, 37, 38, 39, 40, 41, 42, 6, 43, 44, 45, 46, 47, 48, 49, 50, 51, 52, 53, 54, 55, 56, 57, 58, 62, 63, 64, 65, 66] (by decide +kernel) (by decide +kernel)
set_option maxRecDepth 20000 in
theorem gX3_forks_X0_countOfSize : GoodIn wsX3_forks (wsV RX3 90 RX0 yX0_countOfSize wsX0_countOfSize) := goodIn_app (goodIn_of _ (by decide +kernel)) ggX3_forks_X0_countOfSize
set_option maxRecDepth 20000 in
theorem ggX3_depth_X3_isKeySize : GoodIn wsX3_depth wsX3_isKeySize := goodIn_r _ [5] (by decide +kernel) (by decide +kernel)
set_option maxRecDepth 20000 in
theorem gX3_depth_X3_isKeySize : GoodIn wsX3_depth (va_wsS RX3 30 yX3_isKeySize wsX3_isKeySize) := goodIn_app (goodIn_of _ (by decide +kernel)) ggX3_depth_X3_isKeySize
set_option maxRecDepth 20000 in
theorem ggX3_depth_X3_highestBytes : GoodIn wsX3_depth wsX3_highestBytes := goodIn_r _ [8, 9] (by decide +kernel) (by decide +kernel)
set_option maxRecDepth 20000 in
theorem gX3_depth_X3_highestBytes : GoodIn wsX3_depth (va_wsS RX3 41 yX3_highestBytes wsX3_highestBytes) := goodIn_app (goodIn_of _ (by decide +kernel)) ggX3_depth_X3_highestBytes
set_option maxRecDepth 20000 in
theorem ggX3_depth_X1_countForksOnTheWayTo : GoodIn wsX3_depth wsX1_countForksOnTheWayTo := goodIn_r _ [14, 15, 16, 17, 18, 19, 20, 13, 21, 22, 23, 24, 25, 26, 4, 27, 28, 29, 30, 31, 32, 33, 34, 35, 36, 37, 38, 39, 40, 41, 42, 43, 44, 45, 46, 50, 51, 52, 53] (by decide +kernel) (by decide +kernel)
set_option maxRecDepth 20000 in
theorem gX3_depth_X1_countForksOnTheWayTo : GoodIn wsX3_depth (wsV RX3 94 RX1 yX1_countForksOnTheWayTo wsX1_countForksOnTheWayTo) := goodIn_app (goodIn_of _ (by decide +kernel)) ggX3_depth_X1_countForksOnTheWayTo
set_option maxRecDepth 20000 in
theorem ggX3_open_X3_readerOrNull : GoodIn wsX3_open wsX3_readerOrNull := goodIn_r _ [6, 7, 29, 30, 31] (by decide +kernel) (by decide +kernel)
set_option maxRecDepth 20000 in
theorem gX3_open_X3_readerOrNull : GoodIn wsX3_open (wsV RX3 97 RX3 yX3_readerOrNull wsX3_readerOrNull) := goodIn_app (goodIn_of _ (by decide +kernel)) ggX3_open_X3_readerOrNull
set_option maxRecDepth 20000 in
theorem ggX3_open_X2_isOpen : GoodIn wsX3_open wsX2_isOpen := goodIn_r _ [12, 13, 32, 33, 34] (by decide +kernel) (by decide +kernel)
set_option maxRecDepth 20000 in
theorem gX3_open_X2_isOpen : GoodIn wsX3_open (wsV RX3 101 RX2 yX2_isOpen wsX2_isOpen) := goodIn_app (goodIn_of _ (by decide +kernel)) ggX3_open_X2_isOpen
set_option maxRecDepth 20000 in
theorem ggX3_open_X2_begin : GoodIn wsX3_open wsX2_begin := goodIn_r _ [17, 18, 19, 13, 20, 21, 22, 23, 24, 25, 26, 27, 28, 32, 33, 34, 35, 36, 37, 38] (by decide +kernel) (by decide +kernel)
set_option maxRecDepth 20000 in
theorem gX3_open_X2_begin : GoodIn wsX3_open (wsV RX3 104 RX2 yX2_begin wsX2_begin) := goodIn_app (goodIn_of _ (by decide +kernel)) ggX3_open_X2_begin
set_option maxRecDepth 20000 in
theorem ggX3_close_X3_openReaderOrNull : GoodIn wsX3_close wsX3_openReaderOrNull := goodIn_r _ [5, 6, 7, 8, 4, 9, 10, 11, 12, 13, 14, 15, 16, 21, 22, 23, 24, 25, 26] (by decide +kernel) (by decide +kernel)
set_option maxRecDepth 20000 in
theorem gX3_close_X3_openReaderOrNull : GoodIn wsX3_close (wsV RX3 108 RX3 yX3_openReaderOrNull wsX3_openReaderOrNull) := goodIn_app (goodIn_of _ (by decide +kernel)) ggX3_close_X3_openReaderOrNull
set_option maxRecDepth 20000 in
theorem ggX3_close_X2_end : GoodIn wsX3_close wsX2_end := goodIn_r _ [20, 16, 24, 25, 26] (by decide +kernel) (by decide +kernel)
set_option maxRecDepth 20000 in
theorem gX3_close_X2_end : GoodIn wsX3_close (wsV RX3 111 RX2 yX2_end wsX2_end) := goodIn_app (goodIn_of _ (by decide +kernel)) ggX3_close_X2_end
set_option maxRecDepth 20000 in
theorem ggX3_seek_X3_isKeySize : GoodIn wsX3_seek wsX3_isKeySize := goodIn_r _ [8] (by decide +kernel) (by decide +kernel)
set_option maxRecDepth 20000 in
theorem gX3_seek_X3_isKeySize : GoodIn wsX3_seek (va_wsS RX3 30 yX3_isKeySize wsX3_isKeySize) := goodIn_app (goodIn_of _ (by decide +kernel)) ggX3_seek_X3_isKeySize
set_option maxRecDepth 20000 in
theorem ggX3_seek_X3_openReaderOrNull : GoodIn wsX3_seek wsX3_openReaderOrNull := goodIn_r _ [12, 13, 14, 15, 7, 16, 17, 18, 19, 20, 21, 22, 23, 54, 55, 56, 57, 58, 59] (by decide +kernel) (by decide +kernel)
set_option maxRecDepth 20000 in
theorem gX3_seek_X3_openReaderOrNull : GoodIn wsX3_seek (wsV RX3 108 RX3 yX3_openReaderOrNull wsX3_openReaderOrNull) := goodIn_app (goodIn_of _ (by decide +kernel)) ggX3_seek_X3_openReaderOrNull
set_option maxRecDepth 20000 in
theorem ggX3_seek_X3_highestBytes : GoodIn wsX3_seek wsX3_highestBytes := goodIn_r _ [26, 27] (by decide +kernel) (by decide +kernel)
set_option maxRecDepth 20000 in
theorem gX3_seek_X3_highestBytes : GoodIn wsX3_seek (va_wsS RX3 41 yX3_highestBytes wsX3_highestBytes) := goodIn_app (goodIn_of _ (by decide +kernel)) ggX3_seek_X3_highestBytes
set_option maxRecDepth 20000 in
theorem ggX3_seek_X2_goToOrBehind : GoodIn wsX3_seek wsX2_goToOrBehind := goodIn_r _ [31, 32, 33, 34, 35, 36, 37, 38, 39, 40, 41, 42, 43, 44, 45, 46, 47, 48, 49, 50, 51, 52, 53, 57, 58, 59, 60, 61, 62, 63] (by decide +kernel) (by decide +kernel)
set_option maxRecDepth 20000 in
theorem gX3_seek_X2_goToOrBehind : GoodIn wsX3_seek (wsV RX3 116 RX2 yX2_goToOrBehind wsX2_goToOrBehind) := goodIn_app (goodIn_of _ (by decide +kernel)) ggX3_seek_X2_goToOrBehind
set_option maxRecDepth 20000 in
theorem ggX3_next_X3_openReaderOrNull : GoodIn wsX3_next wsX3_openReaderOrNull := goodIn_r _ [7, 8, 9, 10, 6, 11, 12, 13, 14, 15, 16, 17, 18, 39, 40, 41, 42, 43, 44] (by decide +kernel) (by decide +kernel)
set_option maxRecDepth 20000 in
theorem gX3_next_X3_openReaderOrNull : GoodIn wsX3_next (wsV RX3 108 RX3 yX3_openReaderOrNull wsX3_openReaderOrNull) := goodIn_app (goodIn_of _ (by decide +kernel)) ggX3_next_X3_openReaderOrNull
set_option maxRecDepth 20000 in
theorem ggX3_next_X2_goOn : GoodIn wsX3_next wsX2_goOn := goodIn_r _ [22, 23, 24, 25, 26, 27, 28, 29, 30, 31, 32, 33, 34, 35, 36, 37, 38, 42, 43, 44, 45, 46, 47, 48] (by decide +kernel) (by decide +kernel)
set_option maxRecDepth 20000 in
theorem gX3_next_X2_goOn : GoodIn wsX3_next (wsV RX3 120 RX2 yX2_goOn wsX2_goOn) := goodIn_app (goodIn_of _ (by decide +kernel)) ggX3_next_X2_goOn
set_option maxRecDepth 20000 in
theorem ggX3_key_X3_openReaderOrNull : GoodIn wsX3_key wsX3_openReaderOrNull := goodIn_r _ [5, 6, 7, 8, 4, 9, 10, 11, 12, 13, 14, 15, 16, 34, 35, 36, 37, 38, 39] (by decide +kernel) (by decide +kernel)
set_option maxRecDepth 20000 in
theorem gX3_key_X3_openReaderOrNull : GoodIn wsX3_key (wsV RX3 108 RX3 yX3_openReaderOrNull wsX3_openReaderOrNull) := goodIn_app (goodIn_of _ (by decide +kernel)) ggX3_key_X3_openReaderOrNull
set_option maxRecDepth 20000 in
theorem ggX3_key_X2_bytesHere : GoodIn wsX3_key wsX2_bytesHere := goodIn_r _ [20, 21, 22, 23, 24, 25, 26, 27, 28, 29, 30, 31, 32, 33, 37, 38, 39, 40, 41, 42, 43] (by decide +kernel) (by decide +kernel)
set_option maxRecDepth 20000 in
theorem gX3_key_X2_bytesHere : GoodIn wsX3_key (wsV RX3 123 RX2 yX2_bytesHere wsX2_bytesHere) := goodIn_app (goodIn_of _ (by decide +kernel)) ggX3_key_X2_bytesHere
set_option maxRecDepth 20000 in
theorem ggX3_length_X3_openReaderOrNull : GoodIn wsX3_length wsX3_openReaderOrNull := goodIn_r _ [5, 6, 7, 8, 4, 9, 10, 11, 12, 13, 14, 15, 16, 34, 35, 36, 37, 38, 39] (by decide +kernel) (by decide +kernel)
set_option maxRecDepth 20000 in
theorem gX3_length_X3_openReaderOrNull : GoodIn wsX3_length (wsV RX3 108 RX3 yX3_openReaderOrNull wsX3_openReaderOrNull) := goodIn_app (goodIn_of _ (by decide +kernel)) ggX3_length_X3_openReaderOrNull
set_option maxRecDepth 20000 in
theorem ggX3_length_X2_sizeHere : GoodIn wsX3_length wsX2_sizeHere := goodIn_r _ [20, 21, 22, 23, 24, 25, 26, 27, 28, 29, 30, 31, 32, 33, 37, 38, 39, 40, 41, 42, 43] (by decide +kernel) (by decide +kernel)
set_option maxRecDepth 20000 in
theorem gX3_length_X2_sizeHere : GoodIn wsX3_length (wsV RX3 127 RX2 yX2_sizeHere wsX2_sizeHere) := goodIn_app (goodIn_of _ (by decide +kernel)) ggX3_length_X2_sizeHere
set_option maxRecDepth 20000 in
theorem ggX3_value_X3_openReaderOrNull : GoodIn wsX3_value wsX3_openReaderOrNull := goodIn_r _ [5, 6, 7, 8, 4, 9, 10, 11, 12, 13, 14, 15, 16, 34, 35, 36, 37, 38, 39] (by decide +kernel) (by decide +kernel)
set_option maxRecDepth 20000 in
theorem gX3_value_X3_openReaderOrNull : GoodIn wsX3_value (wsV RX3 108 RX3 yX3_openReaderOrNull wsX3_openReaderOrNull) := goodIn_app (goodIn_of _ (by decide +kernel)) ggX3_value_X3_openReaderOrNull
set_option maxRecDepth 20000 in
theorem ggX3_value_X2_numberHere : GoodIn wsX3_value wsX2_numberHere := goodIn_r _ [20, 21, 22, 23, 24, 25, 26, 27, 28, 29, 30, 31, 32, 33, 37, 38, 39, 40, 41, 42, 43] (by decide +kernel) (by decide +kernel)
set_option maxRecDepth 20000 in
theorem gX3_value_X2_numberHere : GoodIn wsX3_value (wsV RX3 130 RX2 yX2_numberHere wsX2_numberHere) := goodIn_app (goodIn_of _ (by decide +kernel)) ggX3_value_X2_numberHere
set_option maxRecDepth 20000 in
theorem ggX3_openReaderOrNull_X3_readerOrNull : GoodIn wsX3_openReaderOrNull wsX3_readerOrNull := goodIn_r _ [5, 6, 13, 14, 15] (by decide +kernel) (by decide +kernel)
set_option maxRecDepth 20000 in
theorem gX3_openReaderOrNull_X3_readerOrNull : GoodIn wsX3_openReaderOrNull (wsV RX3 97 RX3 yX3_readerOrNull wsX3_readerOrNull) := goodIn_app (goodIn_of _ (by decide +kernel)) ggX3_openReaderOrNull_X3_readerOrNull
set_option maxRecDepth 20000 in
theorem ggX3_openReaderOrNull_X2_isOpen : GoodIn wsX3_openReaderOrNull wsX2_isOpen := goodIn_r _ [11, 12, 16, 17, 18] (by decide +kernel) (by decide +kernel)
set_option maxRecDepth 20000 in
theorem gX3_openReaderOrNull_X2_isOpen : GoodIn wsX3_openReaderOrNull (wsV RX3 101 RX2 yX2_isOpen wsX2_isOpen) := goodIn_app (goodIn_of _ (by decide +kernel)) ggX3_openReaderOrNull_X2_isOpen
set_option maxRecDepth 20000 in
theorem ggX3_bytesInCommon_J13_numberOfLeadingZeros_95d88 : GoodIn wsX3_bytesInCommon wsJ13_numberOfLeadingZeros_95d88 := goodIn_r _ [8, 9, 10, 11, 12, 13] (by decide +kernel) (by decide +kernel)
set_option maxRecDepth 20000 in
theorem gX3_bytesInCommon_J13_numberOfLeadingZeros_95d88 : GoodIn wsX3_bytesInCommon (va_wsS RX3 135 yJ13_numberOfLeadingZeros_95d88 wsJ13_numberOfLeadingZeros_95d88) := goodIn_app (goodIn_of _ (by decide +kernel)) ggX3_bytesInCommon_J13_numberOfLeadingZeros_95d88
end
section
set_option maxRecDepth 20000 in
theorem ggX4_place_X4_order : GoodIn wsX4_place wsX4_order := goodIn_r _ [6, 7, 8, 9, 10, 11, 12, 13, 14, 15, 16] (by decide +kernel) (by decide +kernel)
set_option maxRecDepth 20000 in
theorem gX4_place_X4_order : GoodIn wsX4_place (wsV RX4 36 RX4 yX4_order wsX4_order) := goodIn_app (goodIn_of _ (by decide +kernel)) ggX4_place_X4_order
set_option maxRecDepth 20000 in
theorem ggX4_has_X4_order : GoodIn wsX4_has wsX4_order := goodIn_r _ [6, 7, 8, 9, 10, 11, 12, 13, 14, 15, 16] (by decide +kernel) (by decide +kernel)
set_option maxRecDepth 20000 in
theorem gX4_has_X4_order : GoodIn wsX4_has (wsV RX4 36 RX4 yX4_order wsX4_order) := goodIn_app (goodIn_of _ (by decide +kernel)) ggX4_has_X4_order
set_option maxRecDepth 20000 in
theorem ggX4_begins_X4_cut : GoodIn wsX4_begins wsX4_cut := goodIn_r _ [6] (by decide +kernel) (by decide +kernel)
set_option maxRecDepth 20000 in
theorem gX4_begins_X4_cut : GoodIn wsX4_begins (va_wsS RX4 40 yX4_cut wsX4_cut) := goodIn_app (goodIn_of _ (by decide +kernel)) ggX4_begins_X4_cut
set_option maxRecDepth 20000 in
theorem ggX4_put_X4_cut : GoodIn wsX4_put wsX4_cut := goodIn_r _ [9] (by decide +kernel) (by decide +kernel)
set_option maxRecDepth 20000 in
theorem gX4_put_X4_cut : GoodIn wsX4_put (va_wsS RX4 40 yX4_cut wsX4_cut) := goodIn_app (goodIn_of _ (by decide +kernel)) ggX4_put_X4_cut
set_option maxRecDepth 20000 in
theorem ggX4_put_X4_place : GoodIn wsX4_put wsX4_place := goodIn_r _ [13, 1, 14, 15, 16, 8, 17, 3, 4, 18, 27, 28, 29, 30, 31, 32, 33] (by decide +kernel) (by decide +kernel)
set_option maxRecDepth 20000 in
theorem gX4_put_X4_place : GoodIn wsX4_put (wsV RX4 44 RX4 yX4_place wsX4_place) := goodIn_app (goodIn_of _ (by decide +kernel)) ggX4_put_X4_place
set_option maxRecDepth 20000 in
theorem ggX4_put_X4_has : GoodIn wsX4_put wsX4_has := goodIn_r _ [22, 1, 14, 15, 16, 8, 17, 3, 4, 18, 27, 28, 29, 30, 31, 32, 33] (by decide +kernel) (by decide +kernel)
set_option maxRecDepth 20000 in
theorem gX4_put_X4_has : GoodIn wsX4_put (wsV RX4 47 RX4 yX4_has wsX4_has) := goodIn_app (goodIn_of _ (by decide +kernel)) ggX4_put_X4_has
set_option maxRecDepth 20000 in
theorem ggX4_put_X4_copy : GoodIn wsX4_put wsX4_copy := goodIn_r _ [26, 3, 4, 5, 27, 28, 29, 30, 31, 32, 33] (by decide +kernel) (by decide +kernel)
set_option maxRecDepth 20000 in
theorem gX4_put_X4_copy : GoodIn wsX4_put (wsV RX4 51 RX4 yX4_copy wsX4_copy) := goodIn_app (goodIn_of _ (by decide +kernel)) ggX4_put_X4_copy
set_option maxRecDepth 20000 in
theorem ggX4_get_X4_cut : GoodIn wsX4_get wsX4_cut := goodIn_r _ [6] (by decide +kernel) (by decide +kernel)
set_option maxRecDepth 20000 in
theorem gX4_get_X4_cut : GoodIn wsX4_get (va_wsS RX4 40 yX4_cut wsX4_cut) := goodIn_app (goodIn_of _ (by decide +kernel)) ggX4_get_X4_cut
set_option maxRecDepth 20000 in
theorem ggX4_get_X4_place : GoodIn wsX4_get wsX4_place := goodIn_r _ [10, 11, 12, 13, 14, 5, 15, 16, 17, 18, 23, 24, 25, 26, 27, 28, 29] (by decide +kernel) (by decide +kernel)
set_option maxRecDepth 20000 in
theorem gX4_get_X4_place : GoodIn wsX4_get (wsV RX4 44 RX4 yX4_place wsX4_place) := goodIn_app (goodIn_of _ (by decide +kernel)) ggX4_get_X4_place
set_option maxRecDepth 20000 in
theorem ggX4_get_X4_has : GoodIn wsX4_get wsX4_has := goodIn_r _ [22, 11, 12, 13, 14, 5, 15, 16, 17, 18, 23, 24, 25, 26, 27, 28, 29] (by decide +kernel) (by decide +kernel)
set_option maxRecDepth 20000 in
theorem gX4_get_X4_has : GoodIn wsX4_get (wsV RX4 47 RX4 yX4_has wsX4_has) := goodIn_app (goodIn_of _ (by decide +kernel)) ggX4_get_X4_has
set_option maxRecDepth 20000 in
theorem ggX4_remove_X4_cut : GoodIn wsX4_remove wsX4_cut := goodIn_r _ [6] (by decide +kernel) (by decide +kernel)
set_option maxRecDepth 20000 in
theorem gX4_remove_X4_cut : GoodIn wsX4_remove (va_wsS RX4 40 yX4_cut wsX4_cut) := goodIn_app (goodIn_of _ (by decide +kernel)) ggX4_remove_X4_cut
set_option maxRecDepth 20000 in
theorem ggX4_remove_X4_place : GoodIn wsX4_remove wsX4_place := goodIn_r _ [10, 2, 11, 12, 13, 5, 14, 15, 16, 17, 27, 28, 29, 30, 31, 32, 33] (by decide +kernel) (by decide +kernel)
set_option maxRecDepth 20000 in
theorem gX4_remove_X4_place : GoodIn wsX4_remove (wsV RX4 44 RX4 yX4_place wsX4_place) := goodIn_app (goodIn_of _ (by decide +kernel)) ggX4_remove_X4_place
set_option maxRecDepth 20000 in
theorem ggX4_remove_X4_has : GoodIn wsX4_remove wsX4_has := goodIn_r _ [21, 2, 11, 12, 13, 5, 14, 15, 16, 17, 27, 28, 29, 30, 31, 32, 33] (by decide +kernel) (by decide +kernel)
set_option maxRecDepth 20000 in
theorem gX4_remove_X4_has : GoodIn wsX4_remove (wsV RX4 47 RX4 yX4_has wsX4_has) := goodIn_app (goodIn_of _ (by decide +kernel)) ggX4_remove_X4_has
set_option maxRecDepth 20000 in
theorem ggX4_remove_X4_copy : GoodIn wsX4_remove wsX4_copy := goodIn_r _ [25, 15, 16, 26, 27, 28, 29, 30, 31, 32, 33] (by decide +kernel) (by decide +kernel)
set_option maxRecDepth 20000 in
theorem gX4_remove_X4_copy : GoodIn wsX4_remove (wsV RX4 51 RX4 yX4_copy wsX4_copy) := goodIn_app (goodIn_of _ (by decide +kernel)) ggX4_remove_X4_copy
set_option maxRecDepth 20000 in
theorem ggX4_within_X4_cut : GoodIn wsX4_within wsX4_cut := goodIn_r _ [6] (by decide +kernel) (by decide +kernel)
set_option maxRecDepth 20000 in
theorem gX4_within_X4_cut : GoodIn wsX4_within (va_wsS RX4 40 yX4_cut wsX4_cut) := goodIn_app (goodIn_of _ (by decide +kernel)) ggX4_within_X4_cut
set_option maxRecDepth 20000 in
theorem ggX4_within_X4_begins : GoodIn wsX4_within wsX4_begins := goodIn_r _ [10, 11, 12, 3, 4, 5, 6, 13, 14, 15, 16, 17, 18, 19] (by decide +kernel) (by decide +kernel)
set_option maxRecDepth 20000 in
theorem gX4_within_X4_begins : GoodIn wsX4_within (wsV RX4 55 RX4 yX4_begins wsX4_begins) := goodIn_app (goodIn_of _ (by decide +kernel)) ggX4_within_X4_begins
set_option maxRecDepth 20000 in
theorem ggX4_rank_X4_cut : GoodIn wsX4_rank wsX4_cut := goodIn_r _ [5] (by decide +kernel) (by decide +kernel)
set_option maxRecDepth 20000 in
theorem gX4_rank_X4_cut : GoodIn wsX4_rank (va_wsS RX4 40 yX4_cut wsX4_cut) := goodIn_app (goodIn_of _ (by decide +kernel)) ggX4_rank_X4_cut
set_option maxRecDepth 20000 in
theorem ggX4_rank_X4_place : GoodIn wsX4_rank wsX4_place := goodIn_r _ [9, 10, 11, 12, 13, 4, 14, 15, 16, 17, 18, 19, 20, 21, 22, 23, 24] (by decide +kernel) (by decide +kernel)
set_option maxRecDepth 20000 in
theorem gX4_rank_X4_place : GoodIn wsX4_rank (wsV RX4 44 RX4 yX4_place wsX4_place) := goodIn_app (goodIn_of _ (by decide +kernel)) ggX4_rank_X4_place
set_option maxRecDepth 20000 in
theorem ggX4_branches_X4_begins : GoodIn wsX4_branches wsX4_begins := goodIn_r _ [8, 2, 3, 9, 10, 7, 11, 15, 16, 17, 18, 19, 20, 21] (by decide +kernel) (by decide +kernel)
set_option maxRecDepth 20000 in
theorem gX4_branches_X4_begins : GoodIn wsX4_branches (wsV RX4 55 RX4 yX4_begins wsX4_begins) := goodIn_app (goodIn_of _ (by decide +kernel)) ggX4_branches_X4_begins
set_option maxRecDepth 20000 in
theorem ggX4_branches_X4_part : GoodIn wsX4_branches wsX4_part := goodIn_r _ [14] (by decide +kernel) (by decide +kernel)
set_option maxRecDepth 20000 in
theorem gX4_branches_X4_part : GoodIn wsX4_branches (va_wsS RX4 59 yX4_part wsX4_part) := goodIn_app (goodIn_of _ (by decide +kernel)) ggX4_branches_X4_part
set_option maxRecDepth 20000 in
theorem ggX4_forks_X4_cut : GoodIn wsX4_forks wsX4_cut := goodIn_r _ [8] (by decide +kernel) (by decide +kernel)
set_option maxRecDepth 20000 in
theorem gX4_forks_X4_cut : GoodIn wsX4_forks (va_wsS RX4 40 yX4_cut wsX4_cut) := goodIn_app (goodIn_of _ (by decide +kernel)) ggX4_forks_X4_cut
set_option maxRecDepth 20000 in
theorem ggX4_forks_X4_begins : GoodIn wsX4_forks wsX4_begins := goodIn_r _ [12, 3, 4, 5, 6, 7, 8, 23, 24, 25, 26, 27, 28, 29] (by decide +kernel) (by decide +kernel)
set_option maxRecDepth 20000 in
theorem gX4_forks_X4_begins : GoodIn wsX4_forks (wsV RX4 55 RX4 yX4_begins wsX4_begins) := goodIn_app (goodIn_of _ (by decide +kernel)) ggX4_forks_X4_begins
set_option maxRecDepth 20000 in
theorem ggX4_forks_X4_branches : GoodIn wsX4_forks wsX4_branches := goodIn_r _ [16, 2, 3, 4, 9, 10, 11, 7, 12, 5, 6, 8, 17, 18, 19, 23, 24, 25, 26, 27, 28, 29] (by decide +kernel) (by decide +kernel)
set_option maxRecDepth 20000 in
theorem gX4_forks_X4_branches : GoodIn wsX4_forks (wsV RX4 63 RX4 yX4_branches wsX4_branches) := goodIn_app (goodIn_of _ (by decide +kernel)) ggX4_forks_X4_branches
set_option maxRecDepth 20000 in
theorem ggX4_forks_X4_sizeOf : GoodIn wsX4_forks wsX4_sizeOf := goodIn_r _ [22] (by decide +kernel) (by decide +kernel)
set_option maxRecDepth 20000 in
theorem gX4_forks_X4_sizeOf : GoodIn wsX4_forks (va_wsS RX4 66 yX4_sizeOf wsX4_sizeOf) := goodIn_app (goodIn_of _ (by decide +kernel)) ggX4_forks_X4_sizeOf
set_option maxRecDepth 20000 in
theorem ggX4_depth_X4_cut : GoodIn wsX4_depth wsX4_cut := goodIn_r _ [5] (by decide +kernel) (by decide +kernel)
set_option maxRecDepth 20000 in
theorem gX4_depth_X4_cut : GoodIn wsX4_depth (va_wsS RX4 40 yX4_cut wsX4_cut) := goodIn_app (goodIn_of _ (by decide +kernel)) ggX4_depth_X4_cut
set_option maxRecDepth 20000 in
theorem ggX4_depth_X4_branches : GoodIn wsX4_depth wsX4_branches := goodIn_r _ [9, 10, 11, 12, 13, 14, 15, 4, 16, 2, 3, 5, 17, 18, 19, 20, 21, 22, 23, 24, 25, 26] (by decide +kernel) (by decide +kernel)
set_option maxRecDepth 20000 in
theorem gX4_depth_X4_branches : GoodIn wsX4_depth (wsV RX4 63 RX4 yX4_branches wsX4_branches) := goodIn_app (goodIn_of _ (by decide +kernel)) ggX4_depth_X4_branches
set_option maxRecDepth 20000 in
theorem ggX4_open_X4_copy : GoodIn wsX4_open wsX4_copy := goodIn_r _ [9, 10, 11, 12, 13, 14, 15, 16, 17, 18, 19] (by decide +kernel) (by decide +kernel)
set_option maxRecDepth 20000 in
theorem gX4_open_X4_copy : GoodIn wsX4_open (wsV RX4 51 RX4 yX4_copy wsX4_copy) := goodIn_app (goodIn_of _ (by decide +kernel)) ggX4_open_X4_copy
set_option maxRecDepth 20000 in
theorem ggX4_close_X4_isOpen : GoodIn wsX4_close wsX4_isOpen := goodIn_r _ [7, 2, 8, 9, 10, 11, 12, 13, 14] (by decide +kernel) (by decide +kernel)
set_option maxRecDepth 20000 in
theorem gX4_close_X4_isOpen : GoodIn wsX4_close (wsV RX4 70 RX4 yX4_isOpen wsX4_isOpen) := goodIn_app (goodIn_of _ (by decide +kernel)) ggX4_close_X4_isOpen
set_option maxRecDepth 20000 in
theorem ggX4_seek_X4_isOpen : GoodIn wsX4_seek wsX4_isOpen := goodIn_r _ [8, 9, 24, 25, 26, 27, 28, 29, 30] (by decide +kernel) (by decide +kernel)
set_option maxRecDepth 20000 in
theorem gX4_seek_X4_isOpen : GoodIn wsX4_seek (wsV RX4 70 RX4 yX4_isOpen wsX4_isOpen) := goodIn_app (goodIn_of _ (by decide +kernel)) ggX4_seek_X4_isOpen
set_option maxRecDepth 20000 in
theorem ggX4_seek_X4_cut : GoodIn wsX4_seek wsX4_cut := goodIn_r _ [12] (by decide +kernel) (by decide +kernel)
set_option maxRecDepth 20000 in
theorem gX4_seek_X4_cut : GoodIn wsX4_seek (va_wsS RX4 40 yX4_cut wsX4_cut) := goodIn_app (goodIn_of _ (by decide +kernel)) ggX4_seek_X4_cut
set_option maxRecDepth 20000 in
theorem ggX4_seek_X4_place : GoodIn wsX4_seek wsX4_place := goodIn_r _ [16, 3, 17, 18, 19, 7, 20, 21, 22, 23, 24, 25, 26, 27, 28, 29, 30] (by decide +kernel) (by decide +kernel)
set_option maxRecDepth 20000 in
theorem gX4_seek_X4_place : GoodIn wsX4_seek (wsV RX4 44 RX4 yX4_place wsX4_place) := goodIn_app (goodIn_of _ (by decide +kernel)) ggX4_seek_X4_place
set_option maxRecDepth 20000 in
theorem ggX4_next_X4_isOpen : GoodIn wsX4_next wsX4_isOpen := goodIn_r _ [8, 9, 10, 11, 12, 13, 14, 15, 16] (by decide +kernel) (by decide +kernel)
set_option maxRecDepth 20000 in
theorem gX4_next_X4_isOpen : GoodIn wsX4_next (wsV RX4 70 RX4 yX4_isOpen wsX4_isOpen) := goodIn_app (goodIn_of _ (by decide +kernel)) ggX4_next_X4_isOpen
set_option maxRecDepth 20000 in
theorem ggX4_on_X4_isOpen : GoodIn wsX4_on wsX4_isOpen := goodIn_r _ [7, 8, 9, 10, 11, 12, 13, 14, 15] (by decide +kernel) (by decide +kernel)
set_option maxRecDepth 20000 in
theorem gX4_on_X4_isOpen : GoodIn wsX4_on (wsV RX4 70 RX4 yX4_isOpen wsX4_isOpen) := goodIn_app (goodIn_of _ (by decide +kernel)) ggX4_on_X4_isOpen
set_option maxRecDepth 20000 in
theorem ggX4_key_X4_on : GoodIn wsX4_key wsX4_on := goodIn_r _ [7, 8, 9, 10, 11, 12, 6, 13, 14, 15, 16, 17, 18, 19, 20, 21] (by decide +kernel) (by decide +kernel)
set_option maxRecDepth 20000 in
theorem gX4_key_X4_on : GoodIn wsX4_key (wsV RX4 74 RX4 yX4_on wsX4_on) := goodIn_app (goodIn_of _ (by decide +kernel)) ggX4_key_X4_on
set_option maxRecDepth 20000 in
theorem ggX4_length_X4_on : GoodIn wsX4_length wsX4_on := goodIn_r _ [7, 8, 9, 10, 11, 12, 6, 13, 14, 15, 16, 17, 18, 19, 20, 21] (by decide +kernel) (by decide +kernel)
set_option maxRecDepth 20000 in
theorem gX4_length_X4_on : GoodIn wsX4_length (wsV RX4 74 RX4 yX4_on wsX4_on) := goodIn_app (goodIn_of _ (by decide +kernel)) ggX4_length_X4_on
set_option maxRecDepth 20000 in
theorem ggX4_value_X4_on : GoodIn wsX4_value wsX4_on := goodIn_r _ [7, 8, 9, 10, 11, 12, 6, 13, 14, 15, 16, 17, 18, 19, 20, 21] (by decide +kernel) (by decide +kernel)
set_option maxRecDepth 20000 in
theorem gX4_value_X4_on : GoodIn wsX4_value (wsV RX4 74 RX4 yX4_on wsX4_on) := goodIn_app (goodIn_of _ (by decide +kernel)) ggX4_value_X4_on
end
section
theorem dJ13_compare_74951_0 : decode cJ13_compare_74951 0 = .ok (.lload_n 0, 1) := by decide +kernel
theorem dJ13_compare_74951_1 : decode cJ13_compare_74951 1 = .ok (.lload_n 2, 1) := by decide +kernel
theorem dJ13_compare_74951_2 : decode cJ13_compare_74951 2 = .ok (.lcmp, 1) := by decide +kernel
theorem dJ13_compare_74951_3 : decode cJ13_compare_74951 3 = .ok (.ifCond .ge 7, 3) := by decide +kernel
theorem dJ13_compare_74951_6 : decode cJ13_compare_74951 6 = .ok (.iconst (-1), 1) := by decide +kernel
theorem dJ13_compare_74951_7 : decode cJ13_compare_74951 7 = .ok (.goto 14, 3) := by decide +kernel
theorem dJ13_compare_74951_10 : decode cJ13_compare_74951 10 = .ok (.lload_n 0, 1) := by decide +kernel
theorem dJ13_compare_74951_11 : decode cJ13_compare_74951 11 = .ok (.lload_n 2, 1) := by decide +kernel
theorem dJ13_compare_74951_12 : decode cJ13_compare_74951 12 = .ok (.lcmp, 1) := by decide +kernel
theorem dJ13_compare_74951_13 : decode cJ13_compare_74951 13 = .ok (.ifCond .ne 7, 3) := by decide +kernel
theorem dJ13_compare_74951_16 : decode cJ13_compare_74951 16 = .ok (.iconst 0, 1) := by decide +kernel
theorem dJ13_compare_74951_17 : decode cJ13_compare_74951 17 = .ok (.goto 4, 3) := by decide +kernel
theorem dJ13_compare_74951_20 : decode cJ13_compare_74951 20 = .ok (.iconst 1, 1) := by decide +kernel
theorem dJ13_compare_74951_21 : decode cJ13_compare_74951 21 = .ok (.ireturn, 1) := by decide +kernel
theorem dJ13_compareUnsigned_74951_0 : decode cJ13_compareUnsigned_74951 0 = .ok (.lload_n 0, 1) := by decide +kernel
theorem dJ13_compareUnsigned_74951_1 : decode cJ13_compareUnsigned_74951 1 = .ok (.ldc2_w 168, 3) := by decide +kernel
theorem dJ13_compareUnsigned_74951_4 : decode cJ13_compareUnsigned_74951 4 = .ok (.ladd, 1) := by decide +kernel
theorem dJ13_compareUnsigned_74951_5 : decode cJ13_compareUnsigned_74951 5 = .ok (.lload_n 2, 1) := by decide +kernel
theorem dJ13_compareUnsigned_74951_6 : decode cJ13_compareUnsigned_74951 6 = .ok (.ldc2_w 168, 3) := by decide +kernel
theorem dJ13_compareUnsigned_74951_9 : decode cJ13_compareUnsigned_74951 9 = .ok (.ladd, 1) := by decide +kernel
theorem dJ13_compareUnsigned_74951_10 : decode cJ13_compareUnsigned_74951 10 = .ok (.invokestatic 302, 3) := by decide +kernel
theorem dJ13_compareUnsigned_74951_13 : decode cJ13_compareUnsigned_74951 13 = .ok (.ireturn, 1) := by decide +kernel
theorem dJ13_numberOfLeadingZeros_95d88_0 : decode cJ13_numberOfLeadingZeros_95d88 0 = .ok (.lload_n 0, 1) := by decide +kernel
theorem dJ13_numberOfLeadingZeros_95d88_1 : decode cJ13_numberOfLeadingZeros_95d88 1 = .ok (.bipush 32, 2) := by decide +kernel
theorem dJ13_numberOfLeadingZeros_95d88_3 : decode cJ13_numberOfLeadingZeros_95d88 3 = .ok (.lushr, 1) := by decide +kernel
theorem dJ13_numberOfLeadingZeros_95d88_4 : decode cJ13_numberOfLeadingZeros_95d88 4 = .ok (.l2i, 1) := by decide +kernel
theorem dJ13_numberOfLeadingZeros_95d88_5 : decode cJ13_numberOfLeadingZeros_95d88 5 = .ok (.istore_n 2, 1) := by decide +kernel
theorem dJ13_numberOfLeadingZeros_95d88_6 : decode cJ13_numberOfLeadingZeros_95d88 6 = .ok (.iload_n 2, 1) := by decide +kernel
theorem dJ13_numberOfLeadingZeros_95d88_7 : decode cJ13_numberOfLeadingZeros_95d88 7 = .ok (.ifCond .ne 14, 3) := by decide +kernel
theorem dJ13_numberOfLeadingZeros_95d88_10 : decode cJ13_numberOfLeadingZeros_95d88 10 = .ok (.bipush 32, 2) := by decide +kernel
theorem dJ13_numberOfLeadingZeros_95d88_12 : decode cJ13_numberOfLeadingZeros_95d88 12 = .ok (.lload_n 0, 1) := by decide +kernel
theorem dJ13_numberOfLeadingZeros_95d88_13 : decode cJ13_numberOfLeadingZeros_95d88 13 = .ok (.l2i, 1) := by decide +kernel
theorem dJ13_numberOfLeadingZeros_95d88_14 : decode cJ13_numberOfLeadingZeros_95d88 14 = .ok (.invokestatic 308, 3) := by decide +kernel
theorem dJ13_numberOfLeadingZeros_95d88_17 : decode cJ13_numberOfLeadingZeros_95d88 17 = .ok (.iadd, 1) := by decide +kernel
theorem dJ13_numberOfLeadingZeros_95d88_18 : decode cJ13_numberOfLeadingZeros_95d88 18 = .ok (.goto 7, 3) := by decide +kernel
theorem dJ13_numberOfLeadingZeros_95d88_21 : decode cJ13_numberOfLeadingZeros_95d88 21 = .ok (.iload_n 2, 1) := by decide +kernel
theorem dJ13_numberOfLeadingZeros_95d88_22 : decode cJ13_numberOfLeadingZeros_95d88 22 = .ok (.invokestatic 308, 3) := by decide +kernel
theorem dJ13_numberOfLeadingZeros_95d88_25 : decode cJ13_numberOfLeadingZeros_95d88 25 = .ok (.ireturn, 1) := by decide +kernel
theorem dJ6_numberOfLeadingZeros_0f7a4_0 : decode cJ6_numberOfLeadingZeros_0f7a4 0 = .ok (.iload_n 0, 1) := by decide +kernel
theorem dJ6_numberOfLeadingZeros_0f7a4_1 : decode cJ6_numberOfLeadingZeros_0f7a4 1 = .ok (.ifCond .gt 14, 3) := by decide +kernel
theorem dJ6_numberOfLeadingZeros_0f7a4_4 : decode cJ6_numberOfLeadingZeros_0f7a4 4 = .ok (.iload_n 0, 1) := by decide +kernel
theorem dJ6_numberOfLeadingZeros_0f7a4_5 : decode cJ6_numberOfLeadingZeros_0f7a4 5 = .ok (.ifCond .ne 8, 3) := by decide +kernel
theorem dJ6_numberOfLeadingZeros_0f7a4_8 : decode cJ6_numberOfLeadingZeros_0f7a4 8 = .ok (.bipush 32, 2) := by decide +kernel
theorem dJ6_numberOfLeadingZeros_0f7a4_10 : decode cJ6_numberOfLeadingZeros_0f7a4 10 = .ok (.goto 4, 3) := by decide +kernel
theorem dJ6_numberOfLeadingZeros_0f7a4_13 : decode cJ6_numberOfLeadingZeros_0f7a4 13 = .ok (.iconst 0, 1) := by decide +kernel
theorem dJ6_numberOfLeadingZeros_0f7a4_14 : decode cJ6_numberOfLeadingZeros_0f7a4 14 = .ok (.ireturn, 1) := by decide +kernel
theorem dJ6_numberOfLeadingZeros_0f7a4_15 : decode cJ6_numberOfLeadingZeros_0f7a4 15 = .ok (.bipush 31, 2) := by decide +kernel
theorem dJ6_numberOfLeadingZeros_0f7a4_17 : decode cJ6_numberOfLeadingZeros_0f7a4 17 = .ok (.istore_n 1, 1) := by decide +kernel
theorem dJ6_numberOfLeadingZeros_0f7a4_18 : decode cJ6_numberOfLeadingZeros_0f7a4 18 = .ok (.iload_n 0, 1) := by decide +kernel
theorem dJ6_numberOfLeadingZeros_0f7a4_19 : decode cJ6_numberOfLeadingZeros_0f7a4 19 = .ok (.ldc_w 264, 3) := by decide +kernel
theorem dJ6_numberOfLeadingZeros_0f7a4_22 : decode cJ6_numberOfLeadingZeros_0f7a4 22 = .ok (.if_icmp .lt 11, 3) := by decide +kernel
theorem dJ6_numberOfLeadingZeros_0f7a4_25 : decode cJ6_numberOfLeadingZeros_0f7a4 25 = .ok (.iinc 1 (-16), 3) := by decide +kernel
theorem dJ6_numberOfLeadingZeros_0f7a4_28 : decode cJ6_numberOfLeadingZeros_0f7a4 28 = .ok (.iload_n 0, 1) := by decide +kernel
theorem dJ6_numberOfLeadingZeros_0f7a4_29 : decode cJ6_numberOfLeadingZeros_0f7a4 29 = .ok (.bipush 16, 2) := by decide +kernel
theorem dJ6_numberOfLeadingZeros_0f7a4_31 : decode cJ6_numberOfLeadingZeros_0f7a4 31 = .ok (.iushr, 1) := by decide +kernel
theorem dJ6_numberOfLeadingZeros_0f7a4_32 : decode cJ6_numberOfLeadingZeros_0f7a4 32 = .ok (.istore_n 0, 1) := by decide +kernel
theorem dJ6_numberOfLeadingZeros_0f7a4_33 : decode cJ6_numberOfLeadingZeros_0f7a4 33 = .ok (.iload_n 0, 1) := by decide +kernel
theorem dJ6_numberOfLeadingZeros_0f7a4_34 : decode cJ6_numberOfLeadingZeros_0f7a4 34 = .ok (.sipush 256, 3) := by decide +kernel
theorem dJ6_numberOfLeadingZeros_0f7a4_37 : decode cJ6_numberOfLeadingZeros_0f7a4 37 = .ok (.if_icmp .lt 11, 3) := by decide +kernel
theorem dJ6_numberOfLeadingZeros_0f7a4_40 : decode cJ6_numberOfLeadingZeros_0f7a4 40 = .ok (.iinc 1 (-8), 3) := by decide +kernel
theorem dJ6_numberOfLeadingZeros_0f7a4_43 : decode cJ6_numberOfLeadingZeros_0f7a4 43 = .ok (.iload_n 0, 1) := by decide +kernel
theorem dJ6_numberOfLeadingZeros_0f7a4_44 : decode cJ6_numberOfLeadingZeros_0f7a4 44 = .ok (.bipush 8, 2) := by decide +kernel
theorem dJ6_numberOfLeadingZeros_0f7a4_46 : decode cJ6_numberOfLeadingZeros_0f7a4 46 = .ok (.iushr, 1) := by decide +kernel
theorem dJ6_numberOfLeadingZeros_0f7a4_47 : decode cJ6_numberOfLeadingZeros_0f7a4 47 = .ok (.istore_n 0, 1) := by decide +kernel
theorem dJ6_numberOfLeadingZeros_0f7a4_48 : decode cJ6_numberOfLeadingZeros_0f7a4 48 = .ok (.iload_n 0, 1) := by decide +kernel
theorem dJ6_numberOfLeadingZeros_0f7a4_49 : decode cJ6_numberOfLeadingZeros_0f7a4 49 = .ok (.bipush 16, 2) := by decide +kernel
theorem dJ6_numberOfLeadingZeros_0f7a4_51 : decode cJ6_numberOfLeadingZeros_0f7a4 51 = .ok (.if_icmp .lt 10, 3) := by decide +kernel
theorem dJ6_numberOfLeadingZeros_0f7a4_54 : decode cJ6_numberOfLeadingZeros_0f7a4 54 = .ok (.iinc 1 (-4), 3) := by decide +kernel
theorem dJ6_numberOfLeadingZeros_0f7a4_57 : decode cJ6_numberOfLeadingZeros_0f7a4 57 = .ok (.iload_n 0, 1) := by decide +kernel
theorem dJ6_numberOfLeadingZeros_0f7a4_58 : decode cJ6_numberOfLeadingZeros_0f7a4 58 = .ok (.iconst 4, 1) := by decide +kernel
theorem dJ6_numberOfLeadingZeros_0f7a4_59 : decode cJ6_numberOfLeadingZeros_0f7a4 59 = .ok (.iushr, 1) := by decide +kernel
theorem dJ6_numberOfLeadingZeros_0f7a4_60 : decode cJ6_numberOfLeadingZeros_0f7a4 60 = .ok (.istore_n 0, 1) := by decide +kernel
theorem dJ6_numberOfLeadingZeros_0f7a4_61 : decode cJ6_numberOfLeadingZeros_0f7a4 61 = .ok (.iload_n 0, 1) := by decide +kernel
theorem dJ6_numberOfLeadingZeros_0f7a4_62 : decode cJ6_numberOfLeadingZeros_0f7a4 62 = .ok (.iconst 4, 1) := by decide +kernel
theorem dJ6_numberOfLeadingZeros_0f7a4_63 : decode cJ6_numberOfLeadingZeros_0f7a4 63 = .ok (.if_icmp .lt 10, 3) := by decide +kernel
theorem dJ6_numberOfLeadingZeros_0f7a4_66 : decode cJ6_numberOfLeadingZeros_0f7a4 66 = .ok (.iinc 1 (-2), 3) := by decide +kernel
theorem dJ6_numberOfLeadingZeros_0f7a4_69 : decode cJ6_numberOfLeadingZeros_0f7a4 69 = .ok (.iload_n 0, 1) := by decide +kernel
theorem dJ6_numberOfLeadingZeros_0f7a4_70 : decode cJ6_numberOfLeadingZeros_0f7a4 70 = .ok (.iconst 2, 1) := by decide +kernel
theorem dJ6_numberOfLeadingZeros_0f7a4_71 : decode cJ6_numberOfLeadingZeros_0f7a4 71 = .ok (.iushr, 1) := by decide +kernel
theorem dJ6_numberOfLeadingZeros_0f7a4_72 : decode cJ6_numberOfLeadingZeros_0f7a4 72 = .ok (.istore_n 0, 1) := by decide +kernel
theorem dJ6_numberOfLeadingZeros_0f7a4_73 : decode cJ6_numberOfLeadingZeros_0f7a4 73 = .ok (.iload_n 1, 1) := by decide +kernel
theorem dJ6_numberOfLeadingZeros_0f7a4_74 : decode cJ6_numberOfLeadingZeros_0f7a4 74 = .ok (.iload_n 0, 1) := by decide +kernel
theorem dJ6_numberOfLeadingZeros_0f7a4_75 : decode cJ6_numberOfLeadingZeros_0f7a4 75 = .ok (.iconst 1, 1) := by decide +kernel
theorem dJ6_numberOfLeadingZeros_0f7a4_76 : decode cJ6_numberOfLeadingZeros_0f7a4 76 = .ok (.iushr, 1) := by decide +kernel
theorem dJ6_numberOfLeadingZeros_0f7a4_77 : decode cJ6_numberOfLeadingZeros_0f7a4 77 = .ok (.isub, 1) := by decide +kernel
theorem dJ6_numberOfLeadingZeros_0f7a4_78 : decode cJ6_numberOfLeadingZeros_0f7a4 78 = .ok (.ireturn, 1) := by decide +kernel
theorem dJ6_bitCount_0f7a4_0 : decode cJ6_bitCount_0f7a4 0 = .ok (.iload_n 0, 1) := by decide +kernel
theorem dJ6_bitCount_0f7a4_1 : decode cJ6_bitCount_0f7a4 1 = .ok (.iload_n 0, 1) := by decide +kernel
theorem dJ6_bitCount_0f7a4_2 : decode cJ6_bitCount_0f7a4 2 = .ok (.iconst 1, 1) := by decide +kernel
theorem dJ6_bitCount_0f7a4_3 : decode cJ6_bitCount_0f7a4 3 = .ok (.iushr, 1) := by decide +kernel
theorem dJ6_bitCount_0f7a4_4 : decode cJ6_bitCount_0f7a4 4 = .ok (.ldc_w 265, 3) := by decide +kernel
theorem dJ6_bitCount_0f7a4_7 : decode cJ6_bitCount_0f7a4 7 = .ok (.iand, 1) := by decide +kernel
theorem dJ6_bitCount_0f7a4_8 : decode cJ6_bitCount_0f7a4 8 = .ok (.isub, 1) := by decide +kernel
theorem dJ6_bitCount_0f7a4_9 : decode cJ6_bitCount_0f7a4 9 = .ok (.istore_n 0, 1) := by decide +kernel
theorem dJ6_bitCount_0f7a4_10 : decode cJ6_bitCount_0f7a4 10 = .ok (.iload_n 0, 1) := by decide +kernel
theorem dJ6_bitCount_0f7a4_11 : decode cJ6_bitCount_0f7a4 11 = .ok (.ldc_w 266, 3) := by decide +kernel
theorem dJ6_bitCount_0f7a4_14 : decode cJ6_bitCount_0f7a4 14 = .ok (.iand, 1) := by decide +kernel
theorem dJ6_bitCount_0f7a4_15 : decode cJ6_bitCount_0f7a4 15 = .ok (.iload_n 0, 1) := by decide +kernel
theorem dJ6_bitCount_0f7a4_16 : decode cJ6_bitCount_0f7a4 16 = .ok (.iconst 2, 1) := by decide +kernel
theorem dJ6_bitCount_0f7a4_17 : decode cJ6_bitCount_0f7a4 17 = .ok (.iushr, 1) := by decide +kernel
theorem dJ6_bitCount_0f7a4_18 : decode cJ6_bitCount_0f7a4 18 = .ok (.ldc_w 266, 3) := by decide +kernel
theorem dJ6_bitCount_0f7a4_21 : decode cJ6_bitCount_0f7a4 21 = .ok (.iand, 1) := by decide +kernel
theorem dJ6_bitCount_0f7a4_22 : decode cJ6_bitCount_0f7a4 22 = .ok (.iadd, 1) := by decide +kernel
theorem dJ6_bitCount_0f7a4_23 : decode cJ6_bitCount_0f7a4 23 = .ok (.istore_n 0, 1) := by decide +kernel
theorem dJ6_bitCount_0f7a4_24 : decode cJ6_bitCount_0f7a4 24 = .ok (.iload_n 0, 1) := by decide +kernel
theorem dJ6_bitCount_0f7a4_25 : decode cJ6_bitCount_0f7a4 25 = .ok (.iload_n 0, 1) := by decide +kernel
theorem dJ6_bitCount_0f7a4_26 : decode cJ6_bitCount_0f7a4 26 = .ok (.iconst 4, 1) := by decide +kernel
theorem dJ6_bitCount_0f7a4_27 : decode cJ6_bitCount_0f7a4 27 = .ok (.iushr, 1) := by decide +kernel
theorem dJ6_bitCount_0f7a4_28 : decode cJ6_bitCount_0f7a4 28 = .ok (.iadd, 1) := by decide +kernel
theorem dJ6_bitCount_0f7a4_29 : decode cJ6_bitCount_0f7a4 29 = .ok (.ldc_w 267, 3) := by decide +kernel
theorem dJ6_bitCount_0f7a4_32 : decode cJ6_bitCount_0f7a4 32 = .ok (.iand, 1) := by decide +kernel
theorem dJ6_bitCount_0f7a4_33 : decode cJ6_bitCount_0f7a4 33 = .ok (.istore_n 0, 1) := by decide +kernel
theorem dJ6_bitCount_0f7a4_34 : decode cJ6_bitCount_0f7a4 34 = .ok (.iload_n 0, 1) := by decide +kernel
theorem dJ6_bitCount_0f7a4_35 : decode cJ6_bitCount_0f7a4 35 = .ok (.iload_n 0, 1) := by decide +kernel
theorem dJ6_bitCount_0f7a4_36 : decode cJ6_bitCount_0f7a4 36 = .ok (.bipush 8, 2) := by decide +kernel
theorem dJ6_bitCount_0f7a4_38 : decode cJ6_bitCount_0f7a4 38 = .ok (.iushr, 1) := by decide +kernel
theorem dJ6_bitCount_0f7a4_39 : decode cJ6_bitCount_0f7a4 39 = .ok (.iadd, 1) := by decide +kernel
theorem dJ6_bitCount_0f7a4_40 : decode cJ6_bitCount_0f7a4 40 = .ok (.istore_n 0, 1) := by decide +kernel
theorem dJ6_bitCount_0f7a4_41 : decode cJ6_bitCount_0f7a4 41 = .ok (.iload_n 0, 1) := by decide +kernel
theorem dJ6_bitCount_0f7a4_42 : decode cJ6_bitCount_0f7a4 42 = .ok (.iload_n 0, 1) := by decide +kernel
theorem dJ6_bitCount_0f7a4_43 : decode cJ6_bitCount_0f7a4 43 = .ok (.bipush 16, 2) := by decide +kernel
theorem dJ6_bitCount_0f7a4_45 : decode cJ6_bitCount_0f7a4 45 = .ok (.iushr, 1) := by decide +kernel
theorem dJ6_bitCount_0f7a4_46 : decode cJ6_bitCount_0f7a4 46 = .ok (.iadd, 1) := by decide +kernel
theorem dJ6_bitCount_0f7a4_47 : decode cJ6_bitCount_0f7a4 47 = .ok (.istore_n 0, 1) := by decide +kernel
theorem dJ6_bitCount_0f7a4_48 : decode cJ6_bitCount_0f7a4 48 = .ok (.iload_n 0, 1) := by decide +kernel
theorem dJ6_bitCount_0f7a4_49 : decode cJ6_bitCount_0f7a4 49 = .ok (.bipush 63, 2) := by decide +kernel
theorem dJ6_bitCount_0f7a4_51 : decode cJ6_bitCount_0f7a4 51 = .ok (.iand, 1) := by decide +kernel
theorem dJ6_bitCount_0f7a4_52 : decode cJ6_bitCount_0f7a4 52 = .ok (.ireturn, 1) := by decide +kernel
theorem dJ9_max_7cf53_0 : decode cJ9_max_7cf53 0 = .ok (.iload_n 0, 1) := by decide +kernel
theorem dJ9_max_7cf53_1 : decode cJ9_max_7cf53 1 = .ok (.iload_n 1, 1) := by decide +kernel
theorem dJ9_max_7cf53_2 : decode cJ9_max_7cf53 2 = .ok (.if_icmp .lt 7, 3) := by decide +kernel
theorem dJ9_max_7cf53_5 : decode cJ9_max_7cf53 5 = .ok (.iload_n 0, 1) := by decide +kernel
theorem dJ9_max_7cf53_6 : decode cJ9_max_7cf53 6 = .ok (.goto 4, 3) := by decide +kernel
theorem dJ9_max_7cf53_9 : decode cJ9_max_7cf53 9 = .ok (.iload_n 1, 1) := by decide +kernel
theorem dJ9_max_7cf53_10 : decode cJ9_max_7cf53 10 = .ok (.ireturn, 1) := by decide +kernel
theorem dJ9_min_7cf53_0 : decode cJ9_min_7cf53 0 = .ok (.iload_n 0, 1) := by decide +kernel
theorem dJ9_min_7cf53_1 : decode cJ9_min_7cf53 1 = .ok (.iload_n 1, 1) := by decide +kernel
theorem dJ9_min_7cf53_2 : decode cJ9_min_7cf53 2 = .ok (.if_icmp .gt 7, 3) := by decide +kernel
theorem dJ9_min_7cf53_5 : decode cJ9_min_7cf53 5 = .ok (.iload_n 0, 1) := by decide +kernel
theorem dJ9_min_7cf53_6 : decode cJ9_min_7cf53 6 = .ok (.goto 4, 3) := by decide +kernel
theorem dJ9_min_7cf53_9 : decode cJ9_min_7cf53 9 = .ok (.iload_n 1, 1) := by decide +kernel
theorem dJ9_min_7cf53_10 : decode cJ9_min_7cf53 10 = .ok (.ireturn, 1) := by decide +kernel
theorem dX0_init_0 : decode cX0_init 0 = .ok (.aload_n 0, 1) := by decide +kernel
theorem dX0_init_1 : decode cX0_init 1 = .ok (.invokespecial 3, 3) := by decide +kernel
theorem dX0_init_4 : decode cX0_init 4 = .ok (.aload_n 0, 1) := by decide +kernel
theorem dX0_init_5 : decode cX0_init 5 = .ok (.bipush 8, 2) := by decide +kernel
theorem dX0_init_7 : decode cX0_init 7 = .ok (.newarray .int, 2) := by decide +kernel
theorem dX0_init_9 : decode cX0_init 9 = .ok (.putfield 9, 3) := by decide +kernel
theorem dX0_init_12 : decode cX0_init 12 = .ok (.return_, 1) := by decide +kernel
theorem dX0_countOfSize_0 : decode cX0_countOfSize 0 = .ok (.iconst 0, 1) := by decide +kernel
theorem dX0_countOfSize_1 : decode cX0_countOfSize 1 = .ok (.istore_n 3, 1) := by decide +kernel
theorem dX0_countOfSize_2 : decode cX0_countOfSize 2 = .ok (.iconst 0, 1) := by decide +kernel
theorem dX0_countOfSize_3 : decode cX0_countOfSize 3 = .ok (.istore 4, 2) := by decide +kernel
theorem dX0_countOfSize_5 : decode cX0_countOfSize 5 = .ok (.iload 4, 2) := by decide +kernel
theorem dX0_countOfSize_7 : decode cX0_countOfSize 7 = .ok (.iconst 1, 1) := by decide +kernel
theorem dX0_countOfSize_8 : decode cX0_countOfSize 8 = .ok (.iadd, 1) := by decide +kernel
theorem dX0_countOfSize_9 : decode cX0_countOfSize 9 = .ok (.aload_n 1, 1) := by decide +kernel
theorem dX0_countOfSize_10 : decode cX0_countOfSize 10 = .ok (.invokevirtual 15, 3) := by decide +kernel
theorem dX0_countOfSize_13 : decode cX0_countOfSize 13 = .ok (.if_icmp .ge 49, 3) := by decide +kernel
theorem dX0_countOfSize_16 : decode cX0_countOfSize 16 = .ok (.aload_n 1, 1) := by decide +kernel
theorem dX0_countOfSize_17 : decode cX0_countOfSize 17 = .ok (.iload 4, 2) := by decide +kernel
theorem dX0_countOfSize_19 : decode cX0_countOfSize 19 = .ok (.invokevirtual 21, 3) := by decide +kernel
theorem dX0_countOfSize_22 : decode cX0_countOfSize 22 = .ok (.istore 5, 2) := by decide +kernel
theorem dX0_countOfSize_24 : decode cX0_countOfSize 24 = .ok (.iload_n 3, 1) := by decide +kernel
theorem dX0_countOfSize_25 : decode cX0_countOfSize 25 = .ok (.aload_n 0, 1) := by decide +kernel
theorem dX0_countOfSize_26 : decode cX0_countOfSize 26 = .ok (.iload 5, 2) := by decide +kernel
theorem dX0_countOfSize_28 : decode cX0_countOfSize 28 = .ok (.iload_n 2, 1) := by decide +kernel
theorem dX0_countOfSize_29 : decode cX0_countOfSize 29 = .ok (.invokevirtual 25, 3) := by decide +kernel
theorem dX0_countOfSize_32 : decode cX0_countOfSize 32 = .ok (.iadd, 1) := by decide +kernel
theorem dX0_countOfSize_33 : decode cX0_countOfSize 33 = .ok (.istore_n 3, 1) := by decide +kernel
theorem dX0_countOfSize_34 : decode cX0_countOfSize 34 = .ok (.aload_n 0, 1) := by decide +kernel
theorem dX0_countOfSize_35 : decode cX0_countOfSize 35 = .ok (.iload 5, 2) := by decide +kernel
theorem dX0_countOfSize_37 : decode cX0_countOfSize 37 = .ok (.aload_n 1, 1) := by decide +kernel
theorem dX0_countOfSize_38 : decode cX0_countOfSize 38 = .ok (.iload 4, 2) := by decide +kernel
theorem dX0_countOfSize_40 : decode cX0_countOfSize 40 = .ok (.invokevirtual 29, 3) := by decide +kernel
theorem dX0_countOfSize_43 : decode cX0_countOfSize 43 = .ok (.iload 5, 2) := by decide +kernel
theorem dX0_countOfSize_45 : decode cX0_countOfSize 45 = .ok (.if_icmp .ne 7, 3) := by decide +kernel
theorem dX0_countOfSize_48 : decode cX0_countOfSize 48 = .ok (.iconst 1, 1) := by decide +kernel
theorem dX0_countOfSize_49 : decode cX0_countOfSize 49 = .ok (.goto 4, 3) := by decide +kernel
theorem dX0_countOfSize_52 : decode cX0_countOfSize 52 = .ok (.iconst 0, 1) := by decide +kernel
theorem dX0_countOfSize_53 : decode cX0_countOfSize 53 = .ok (.invokevirtual 32, 3) := by decide +kernel
theorem dX0_countOfSize_56 : decode cX0_countOfSize 56 = .ok (.iinc 4 1, 3) := by decide +kernel
theorem dX0_countOfSize_59 : decode cX0_countOfSize 59 = .ok (.goto (-54), 3) := by decide +kernel
theorem dX0_countOfSize_62 : decode cX0_countOfSize 62 = .ok (.iload_n 3, 1) := by decide +kernel
theorem dX0_countOfSize_63 : decode cX0_countOfSize 63 = .ok (.aload_n 0, 1) := by decide +kernel
theorem dX0_countOfSize_64 : decode cX0_countOfSize 64 = .ok (.iconst (-1), 1) := by decide +kernel
theorem dX0_countOfSize_65 : decode cX0_countOfSize 65 = .ok (.iload_n 2, 1) := by decide +kernel
theorem dX0_countOfSize_66 : decode cX0_countOfSize 66 = .ok (.invokevirtual 25, 3) := by decide +kernel
theorem dX0_countOfSize_69 : decode cX0_countOfSize 69 = .ok (.iadd, 1) := by decide +kernel
theorem dX0_countOfSize_70 : decode cX0_countOfSize 70 = .ok (.ireturn, 1) := by decide +kernel
theorem dX0_addBranch_0 : decode cX0_addBranch 0 = .ok (.iload_n 1, 1) := by decide +kernel
theorem dX0_addBranch_1 : decode cX0_addBranch 1 = .ok (.ifCond .lt 12, 3) := by decide +kernel
theorem dX0_addBranch_4 : decode cX0_addBranch 4 = .ok (.iload_n 1, 1) := by decide +kernel
theorem dX0_addBranch_5 : decode cX0_addBranch 5 = .ok (.aload_n 0, 1) := by decide +kernel
theorem dX0_addBranch_6 : decode cX0_addBranch 6 = .ok (.getfield 9, 3) := by decide +kernel
theorem dX0_addBranch_9 : decode cX0_addBranch 9 = .ok (.arraylength, 1) := by decide +kernel
theorem dX0_addBranch_10 : decode cX0_addBranch 10 = .ok (.if_icmp .lt 4, 3) := by decide +kernel
theorem dX0_addBranch_13 : decode cX0_addBranch 13 = .ok (.return_, 1) := by decide +kernel
theorem dX0_addBranch_14 : decode cX0_addBranch 14 = .ok (.aload_n 0, 1) := by decide +kernel
theorem dX0_addBranch_15 : decode cX0_addBranch 15 = .ok (.getfield 9, 3) := by decide +kernel
theorem dX0_addBranch_18 : decode cX0_addBranch 18 = .ok (.iload_n 1, 1) := by decide +kernel
theorem dX0_addBranch_19 : decode cX0_addBranch 19 = .ok (.iaload, 1) := by decide +kernel
theorem dX0_addBranch_20 : decode cX0_addBranch 20 = .ok (.ifCond .ne 11, 3) := by decide +kernel
theorem dX0_addBranch_23 : decode cX0_addBranch 23 = .ok (.iload_n 2, 1) := by decide +kernel
theorem dX0_addBranch_24 : decode cX0_addBranch 24 = .ok (.ifCond .ne 7, 3) := by decide +kernel
theorem dX0_addBranch_27 : decode cX0_addBranch 27 = .ok (.iconst 1, 1) := by decide +kernel
theorem dX0_addBranch_28 : decode cX0_addBranch 28 = .ok (.goto 4, 3) := by decide +kernel
theorem dX0_addBranch_31 : decode cX0_addBranch 31 = .ok (.iconst 0, 1) := by decide +kernel
theorem dX0_addBranch_32 : decode cX0_addBranch 32 = .ok (.istore_n 3, 1) := by decide +kernel
theorem dX0_addBranch_33 : decode cX0_addBranch 33 = .ok (.aload_n 0, 1) := by decide +kernel
theorem dX0_addBranch_34 : decode cX0_addBranch 34 = .ok (.getfield 9, 3) := by decide +kernel
theorem dX0_addBranch_37 : decode cX0_addBranch 37 = .ok (.iload_n 1, 1) := by decide +kernel
theorem dX0_addBranch_38 : decode cX0_addBranch 38 = .ok (.dup2, 1) := by decide +kernel
theorem dX0_addBranch_39 : decode cX0_addBranch 39 = .ok (.iaload, 1) := by decide +kernel
theorem dX0_addBranch_40 : decode cX0_addBranch 40 = .ok (.iload_n 3, 1) := by decide +kernel
theorem dX0_addBranch_41 : decode cX0_addBranch 41 = .ok (.ifCond .eq 7, 3) := by decide +kernel
theorem dX0_addBranch_44 : decode cX0_addBranch 44 = .ok (.iconst 2, 1) := by decide +kernel
theorem dX0_addBranch_45 : decode cX0_addBranch 45 = .ok (.goto 4, 3) := by decide +kernel
theorem dX0_addBranch_48 : decode cX0_addBranch 48 = .ok (.iconst 1, 1) := by decide +kernel
theorem dX0_addBranch_49 : decode cX0_addBranch 49 = .ok (.iadd, 1) := by decide +kernel
theorem dX0_addBranch_50 : decode cX0_addBranch 50 = .ok (.iastore, 1) := by decide +kernel
theorem dX0_addBranch_51 : decode cX0_addBranch 51 = .ok (.return_, 1) := by decide +kernel
theorem dX0_endLongerThan_0 : decode cX0_endLongerThan 0 = .ok (.iconst 0, 1) := by decide +kernel
theorem dX0_endLongerThan_1 : decode cX0_endLongerThan 1 = .ok (.istore_n 3, 1) := by decide +kernel
theorem dX0_endLongerThan_2 : decode cX0_endLongerThan 2 = .ok (.iload_n 1, 1) := by decide +kernel
theorem dX0_endLongerThan_3 : decode cX0_endLongerThan 3 = .ok (.iconst 1, 1) := by decide +kernel
theorem dX0_endLongerThan_4 : decode cX0_endLongerThan 4 = .ok (.iadd, 1) := by decide +kernel
theorem dX0_endLongerThan_5 : decode cX0_endLongerThan 5 = .ok (.iconst 0, 1) := by decide +kernel
theorem dX0_endLongerThan_6 : decode cX0_endLongerThan 6 = .ok (.invokestatic 36, 3) := by decide +kernel
theorem dX0_endLongerThan_9 : decode cX0_endLongerThan 9 = .ok (.istore 4, 2) := by decide +kernel
theorem dX0_endLongerThan_11 : decode cX0_endLongerThan 11 = .ok (.iload 4, 2) := by decide +kernel
theorem dX0_endLongerThan_13 : decode cX0_endLongerThan 13 = .ok (.aload_n 0, 1) := by decide +kernel
theorem dX0_endLongerThan_14 : decode cX0_endLongerThan 14 = .ok (.getfield 9, 3) := by decide +kernel
theorem dX0_endLongerThan_17 : decode cX0_endLongerThan 17 = .ok (.arraylength, 1) := by decide +kernel
theorem dX0_endLongerThan_18 : decode cX0_endLongerThan 18 = .ok (.if_icmp .ge 44, 3) := by decide +kernel
theorem dX0_endLongerThan_21 : decode cX0_endLongerThan 21 = .ok (.aload_n 0, 1) := by decide +kernel
theorem dX0_endLongerThan_22 : decode cX0_endLongerThan 22 = .ok (.getfield 9, 3) := by decide +kernel
theorem dX0_endLongerThan_25 : decode cX0_endLongerThan 25 = .ok (.iload 4, 2) := by decide +kernel
theorem dX0_endLongerThan_27 : decode cX0_endLongerThan 27 = .ok (.iaload, 1) := by decide +kernel
theorem dX0_endLongerThan_28 : decode cX0_endLongerThan 28 = .ok (.ifCond .le 20, 3) := by decide +kernel
theorem dX0_endLongerThan_31 : decode cX0_endLongerThan 31 = .ok (.aload_n 0, 1) := by decide +kernel
theorem dX0_endLongerThan_32 : decode cX0_endLongerThan 32 = .ok (.getfield 9, 3) := by decide +kernel
theorem dX0_endLongerThan_35 : decode cX0_endLongerThan 35 = .ok (.iload 4, 2) := by decide +kernel
theorem dX0_endLongerThan_37 : decode cX0_endLongerThan 37 = .ok (.iaload, 1) := by decide +kernel
theorem dX0_endLongerThan_38 : decode cX0_endLongerThan 38 = .ok (.invokestatic 41, 3) := by decide +kernel
theorem dX0_endLongerThan_41 : decode cX0_endLongerThan 41 = .ok (.iload_n 2, 1) := by decide +kernel
theorem dX0_endLongerThan_42 : decode cX0_endLongerThan 42 = .ok (.if_icmp .ne 6, 3) := by decide +kernel
theorem dX0_endLongerThan_45 : decode cX0_endLongerThan 45 = .ok (.iinc 3 1, 3) := by decide +kernel
theorem dX0_endLongerThan_48 : decode cX0_endLongerThan 48 = .ok (.aload_n 0, 1) := by decide +kernel
theorem dX0_endLongerThan_49 : decode cX0_endLongerThan 49 = .ok (.getfield 9, 3) := by decide +kernel
theorem dX0_endLongerThan_52 : decode cX0_endLongerThan 52 = .ok (.iload 4, 2) := by decide +kernel
theorem dX0_endLongerThan_54 : decode cX0_endLongerThan 54 = .ok (.iconst 0, 1) := by decide +kernel
theorem dX0_endLongerThan_55 : decode cX0_endLongerThan 55 = .ok (.iastore, 1) := by decide +kernel
theorem dX0_endLongerThan_56 : decode cX0_endLongerThan 56 = .ok (.iinc 4 1, 3) := by decide +kernel
theorem dX0_endLongerThan_59 : decode cX0_endLongerThan 59 = .ok (.goto (-48), 3) := by decide +kernel
theorem dX0_endLongerThan_62 : decode cX0_endLongerThan 62 = .ok (.iload_n 3, 1) := by decide +kernel
theorem dX0_endLongerThan_63 : decode cX0_endLongerThan 63 = .ok (.ireturn, 1) := by decide +kernel
theorem dX0_sizeOf_0 : decode cX0_sizeOf 0 = .ok (.iload_n 0, 1) := by decide +kernel
theorem dX0_sizeOf_1 : decode cX0_sizeOf 1 = .ok (.iconst 4, 1) := by decide +kernel
theorem dX0_sizeOf_2 : decode cX0_sizeOf 2 = .ok (.if_icmp .gt 5, 3) := by decide +kernel
theorem dX0_sizeOf_5 : decode cX0_sizeOf 5 = .ok (.iconst 0, 1) := by decide +kernel
theorem dX0_sizeOf_6 : decode cX0_sizeOf 6 = .ok (.ireturn, 1) := by decide +kernel
theorem dX0_sizeOf_7 : decode cX0_sizeOf 7 = .ok (.iload_n 0, 1) := by decide +kernel
theorem dX0_sizeOf_8 : decode cX0_sizeOf 8 = .ok (.bipush 16, 2) := by decide +kernel
theorem dX0_sizeOf_10 : decode cX0_sizeOf 10 = .ok (.if_icmp .gt 5, 3) := by decide +kernel
theorem dX0_sizeOf_13 : decode cX0_sizeOf 13 = .ok (.iconst 1, 1) := by decide +kernel
theorem dX0_sizeOf_14 : decode cX0_sizeOf 14 = .ok (.ireturn, 1) := by decide +kernel
theorem dX0_sizeOf_15 : decode cX0_sizeOf 15 = .ok (.iload_n 0, 1) := by decide +kernel
theorem dX0_sizeOf_16 : decode cX0_sizeOf 16 = .ok (.bipush 48, 2) := by decide +kernel
theorem dX0_sizeOf_18 : decode cX0_sizeOf 18 = .ok (.if_icmp .gt 7, 3) := by decide +kernel
theorem dX0_sizeOf_21 : decode cX0_sizeOf 21 = .ok (.iconst 2, 1) := by decide +kernel
theorem dX0_sizeOf_22 : decode cX0_sizeOf 22 = .ok (.goto 4, 3) := by decide +kernel
theorem dX0_sizeOf_25 : decode cX0_sizeOf 25 = .ok (.iconst 3, 1) := by decide +kernel
theorem dX0_sizeOf_26 : decode cX0_sizeOf 26 = .ok (.ireturn, 1) := by decide +kernel
theorem dX1_init_0 : decode cX1_init 0 = .ok (.aload_n 0, 1) := by decide +kernel
theorem dX1_init_1 : decode cX1_init 1 = .ok (.invokespecial 3, 3) := by decide +kernel
theorem dX1_init_4 : decode cX1_init 4 = .ok (.aload_n 0, 1) := by decide +kernel
theorem dX1_init_5 : decode cX1_init 5 = .ok (.bipush 120, 2) := by decide +kernel
theorem dX1_init_7 : decode cX1_init 7 = .ok (.newarray .long, 2) := by decide +kernel
theorem dX1_init_9 : decode cX1_init 9 = .ok (.putfield 9, 3) := by decide +kernel
theorem dX1_init_12 : decode cX1_init 12 = .ok (.aload_n 0, 1) := by decide +kernel
theorem dX1_init_13 : decode cX1_init 13 = .ok (.bipush 120, 2) := by decide +kernel
theorem dX1_init_15 : decode cX1_init 15 = .ok (.newarray .int, 2) := by decide +kernel
theorem dX1_init_17 : decode cX1_init 17 = .ok (.putfield 15, 3) := by decide +kernel
theorem dX1_init_20 : decode cX1_init 20 = .ok (.aload_n 0, 1) := by decide +kernel
theorem dX1_init_21 : decode cX1_init 21 = .ok (.bipush 120, 2) := by decide +kernel
theorem dX1_init_23 : decode cX1_init 23 = .ok (.newarray .int, 2) := by decide +kernel
theorem dX1_init_25 : decode cX1_init 25 = .ok (.putfield 19, 3) := by decide +kernel
theorem dX1_init_28 : decode cX1_init 28 = .ok (.aload_n 0, 1) := by decide +kernel
theorem dX1_init_29 : decode cX1_init 29 = .ok (.iconst 0, 1) := by decide +kernel
theorem dX1_init_30 : decode cX1_init 30 = .ok (.putfield 22, 3) := by decide +kernel
theorem dX1_init_33 : decode cX1_init 33 = .ok (.return_, 1) := by decide +kernel
theorem dX1_count_0 : decode cX1_count 0 = .ok (.aload_n 0, 1) := by decide +kernel
theorem dX1_count_1 : decode cX1_count 1 = .ok (.getfield 22, 3) := by decide +kernel
theorem dX1_count_4 : decode cX1_count 4 = .ok (.ireturn, 1) := by decide +kernel
theorem dX1_isFull_0 : decode cX1_isFull 0 = .ok (.aload_n 0, 1) := by decide +kernel
theorem dX1_isFull_1 : decode cX1_isFull 1 = .ok (.getfield 22, 3) := by decide +kernel
theorem dX1_isFull_4 : decode cX1_isFull 4 = .ok (.bipush 120, 2) := by decide +kernel
theorem dX1_isFull_6 : decode cX1_isFull 6 = .ok (.if_icmp .lt 7, 3) := by decide +kernel
theorem dX1_isFull_9 : decode cX1_isFull 9 = .ok (.iconst 1, 1) := by decide +kernel
theorem dX1_isFull_10 : decode cX1_isFull 10 = .ok (.goto 4, 3) := by decide +kernel
theorem dX1_isFull_13 : decode cX1_isFull 13 = .ok (.iconst 0, 1) := by decide +kernel
theorem dX1_isFull_14 : decode cX1_isFull 14 = .ok (.ireturn, 1) := by decide +kernel
theorem dX1_isPlace_0 : decode cX1_isPlace 0 = .ok (.iload_n 1, 1) := by decide +kernel
theorem dX1_isPlace_1 : decode cX1_isPlace 1 = .ok (.ifCond .lt 15, 3) := by decide +kernel
theorem dX1_isPlace_4 : decode cX1_isPlace 4 = .ok (.iload_n 1, 1) := by decide +kernel
theorem dX1_isPlace_5 : decode cX1_isPlace 5 = .ok (.aload_n 0, 1) := by decide +kernel
theorem dX1_isPlace_6 : decode cX1_isPlace 6 = .ok (.getfield 22, 3) := by decide +kernel
theorem dX1_isPlace_9 : decode cX1_isPlace 9 = .ok (.if_icmp .ge 7, 3) := by decide +kernel
theorem dX1_isPlace_12 : decode cX1_isPlace 12 = .ok (.iconst 1, 1) := by decide +kernel
theorem dX1_isPlace_13 : decode cX1_isPlace 13 = .ok (.goto 4, 3) := by decide +kernel
theorem dX1_isPlace_16 : decode cX1_isPlace 16 = .ok (.iconst 0, 1) := by decide +kernel
theorem dX1_isPlace_17 : decode cX1_isPlace 17 = .ok (.ireturn, 1) := by decide +kernel
theorem dX1_standsAt_0 : decode cX1_standsAt 0 = .ok (.aload_n 0, 1) := by decide +kernel
theorem dX1_standsAt_1 : decode cX1_standsAt 1 = .ok (.iload_n 1, 1) := by decide +kernel
theorem dX1_standsAt_2 : decode cX1_standsAt 2 = .ok (.invokevirtual 26, 3) := by decide +kernel
theorem dX1_standsAt_5 : decode cX1_standsAt 5 = .ok (.ifCond .eq 29, 3) := by decide +kernel
theorem dX1_standsAt_8 : decode cX1_standsAt 8 = .ok (.aload_n 0, 1) := by decide +kernel
theorem dX1_standsAt_9 : decode cX1_standsAt 9 = .ok (.getfield 9, 3) := by decide +kernel
theorem dX1_standsAt_12 : decode cX1_standsAt 12 = .ok (.iload_n 1, 1) := by decide +kernel
theorem dX1_standsAt_13 : decode cX1_standsAt 13 = .ok (.laload, 1) := by decide +kernel
theorem dX1_standsAt_14 : decode cX1_standsAt 14 = .ok (.lload_n 2, 1) := by decide +kernel
theorem dX1_standsAt_15 : decode cX1_standsAt 15 = .ok (.lcmp, 1) := by decide +kernel
theorem dX1_standsAt_16 : decode cX1_standsAt 16 = .ok (.ifCond .ne 18, 3) := by decide +kernel
theorem dX1_standsAt_19 : decode cX1_standsAt 19 = .ok (.aload_n 0, 1) := by decide +kernel
theorem dX1_standsAt_20 : decode cX1_standsAt 20 = .ok (.getfield 15, 3) := by decide +kernel
theorem dX1_standsAt_23 : decode cX1_standsAt 23 = .ok (.iload_n 1, 1) := by decide +kernel
theorem dX1_standsAt_24 : decode cX1_standsAt 24 = .ok (.iaload, 1) := by decide +kernel
theorem dX1_standsAt_25 : decode cX1_standsAt 25 = .ok (.iload 4, 2) := by decide +kernel
theorem dX1_standsAt_27 : decode cX1_standsAt 27 = .ok (.if_icmp .ne 7, 3) := by decide +kernel
theorem dX1_standsAt_30 : decode cX1_standsAt 30 = .ok (.iconst 1, 1) := by decide +kernel
theorem dX1_standsAt_31 : decode cX1_standsAt 31 = .ok (.goto 4, 3) := by decide +kernel
theorem dX1_standsAt_34 : decode cX1_standsAt 34 = .ok (.iconst 0, 1) := by decide +kernel
theorem dX1_standsAt_35 : decode cX1_standsAt 35 = .ok (.ireturn, 1) := by decide +kernel
theorem dX1_wordAt_0 : decode cX1_wordAt 0 = .ok (.aload_n 0, 1) := by decide +kernel
theorem dX1_wordAt_1 : decode cX1_wordAt 1 = .ok (.iload_n 1, 1) := by decide +kernel
theorem dX1_wordAt_2 : decode cX1_wordAt 2 = .ok (.invokevirtual 26, 3) := by decide +kernel
theorem dX1_wordAt_5 : decode cX1_wordAt 5 = .ok (.ifCond .eq 12, 3) := by decide +kernel
theorem dX1_wordAt_8 : decode cX1_wordAt 8 = .ok (.aload_n 0, 1) := by decide +kernel
theorem dX1_wordAt_9 : decode cX1_wordAt 9 = .ok (.getfield 9, 3) := by decide +kernel
theorem dX1_wordAt_12 : decode cX1_wordAt 12 = .ok (.iload_n 1, 1) := by decide +kernel
theorem dX1_wordAt_13 : decode cX1_wordAt 13 = .ok (.laload, 1) := by decide +kernel
theorem dX1_wordAt_14 : decode cX1_wordAt 14 = .ok (.goto 4, 3) := by decide +kernel
theorem dX1_wordAt_17 : decode cX1_wordAt 17 = .ok (.lconst 0, 1) := by decide +kernel
theorem dX1_wordAt_18 : decode cX1_wordAt 18 = .ok (.lreturn, 1) := by decide +kernel
theorem dX1_sizeAt_0 : decode cX1_sizeAt 0 = .ok (.aload_n 0, 1) := by decide +kernel
theorem dX1_sizeAt_1 : decode cX1_sizeAt 1 = .ok (.iload_n 1, 1) := by decide +kernel
theorem dX1_sizeAt_2 : decode cX1_sizeAt 2 = .ok (.invokevirtual 26, 3) := by decide +kernel
theorem dX1_sizeAt_5 : decode cX1_sizeAt 5 = .ok (.ifCond .eq 12, 3) := by decide +kernel
theorem dX1_sizeAt_8 : decode cX1_sizeAt 8 = .ok (.aload_n 0, 1) := by decide +kernel
theorem dX1_sizeAt_9 : decode cX1_sizeAt 9 = .ok (.getfield 15, 3) := by decide +kernel
theorem dX1_sizeAt_12 : decode cX1_sizeAt 12 = .ok (.iload_n 1, 1) := by decide +kernel
theorem dX1_sizeAt_13 : decode cX1_sizeAt 13 = .ok (.iaload, 1) := by decide +kernel
theorem dX1_sizeAt_14 : decode cX1_sizeAt 14 = .ok (.goto 4, 3) := by decide +kernel
theorem dX1_sizeAt_17 : decode cX1_sizeAt 17 = .ok (.iconst (-1), 1) := by decide +kernel
theorem dX1_sizeAt_18 : decode cX1_sizeAt 18 = .ok (.ireturn, 1) := by decide +kernel
theorem dX1_numberAt_0 : decode cX1_numberAt 0 = .ok (.aload_n 0, 1) := by decide +kernel
theorem dX1_numberAt_1 : decode cX1_numberAt 1 = .ok (.iload_n 1, 1) := by decide +kernel
theorem dX1_numberAt_2 : decode cX1_numberAt 2 = .ok (.invokevirtual 26, 3) := by decide +kernel
theorem dX1_numberAt_5 : decode cX1_numberAt 5 = .ok (.ifCond .eq 12, 3) := by decide +kernel
theorem dX1_numberAt_8 : decode cX1_numberAt 8 = .ok (.aload_n 0, 1) := by decide +kernel
theorem dX1_numberAt_9 : decode cX1_numberAt 9 = .ok (.getfield 19, 3) := by decide +kernel
theorem dX1_numberAt_12 : decode cX1_numberAt 12 = .ok (.iload_n 1, 1) := by decide +kernel
theorem dX1_numberAt_13 : decode cX1_numberAt 13 = .ok (.iaload, 1) := by decide +kernel
theorem dX1_numberAt_14 : decode cX1_numberAt 14 = .ok (.goto 4, 3) := by decide +kernel
theorem dX1_numberAt_17 : decode cX1_numberAt 17 = .ok (.iconst 0, 1) := by decide +kernel
theorem dX1_numberAt_18 : decode cX1_numberAt 18 = .ok (.ireturn, 1) := by decide +kernel
theorem dX1_setNumber_0 : decode cX1_setNumber 0 = .ok (.aload_n 0, 1) := by decide +kernel
theorem dX1_setNumber_1 : decode cX1_setNumber 1 = .ok (.iload_n 1, 1) := by decide +kernel
theorem dX1_setNumber_2 : decode cX1_setNumber 2 = .ok (.invokevirtual 26, 3) := by decide +kernel
theorem dX1_setNumber_5 : decode cX1_setNumber 5 = .ok (.ifCond .eq 10, 3) := by decide +kernel
theorem dX1_setNumber_8 : decode cX1_setNumber 8 = .ok (.aload_n 0, 1) := by decide +kernel
theorem dX1_setNumber_9 : decode cX1_setNumber 9 = .ok (.getfield 19, 3) := by decide +kernel
theorem dX1_setNumber_12 : decode cX1_setNumber 12 = .ok (.iload_n 1, 1) := by decide +kernel
theorem dX1_setNumber_13 : decode cX1_setNumber 13 = .ok (.iload_n 2, 1) := by decide +kernel
theorem dX1_setNumber_14 : decode cX1_setNumber 14 = .ok (.iastore, 1) := by decide +kernel
theorem dX1_setNumber_15 : decode cX1_setNumber 15 = .ok (.return_, 1) := by decide +kernel
theorem dX1_countBefore_0 : decode cX1_countBefore 0 = .ok (.iconst 0, 1) := by decide +kernel
theorem dX1_countBefore_1 : decode cX1_countBefore 1 = .ok (.istore 4, 2) := by decide +kernel
theorem dX1_countBefore_3 : decode cX1_countBefore 3 = .ok (.iload 4, 2) := by decide +kernel
theorem dX1_countBefore_5 : decode cX1_countBefore 5 = .ok (.aload_n 0, 1) := by decide +kernel
theorem dX1_countBefore_6 : decode cX1_countBefore 6 = .ok (.getfield 22, 3) := by decide +kernel
theorem dX1_countBefore_9 : decode cX1_countBefore 9 = .ok (.if_icmp .ge 46, 3) := by decide +kernel
theorem dX1_countBefore_12 : decode cX1_countBefore 12 = .ok (.aload_n 0, 1) := by decide +kernel
theorem dX1_countBefore_13 : decode cX1_countBefore 13 = .ok (.getfield 9, 3) := by decide +kernel
theorem dX1_countBefore_16 : decode cX1_countBefore 16 = .ok (.iload 4, 2) := by decide +kernel
theorem dX1_countBefore_18 : decode cX1_countBefore 18 = .ok (.laload, 1) := by decide +kernel
theorem dX1_countBefore_19 : decode cX1_countBefore 19 = .ok (.lload_n 1, 1) := by decide +kernel
theorem dX1_countBefore_20 : decode cX1_countBefore 20 = .ok (.invokestatic 30, 3) := by decide +kernel
theorem dX1_countBefore_23 : decode cX1_countBefore 23 = .ok (.istore 5, 2) := by decide +kernel
theorem dX1_countBefore_25 : decode cX1_countBefore 25 = .ok (.iload 5, 2) := by decide +kernel
theorem dX1_countBefore_27 : decode cX1_countBefore 27 = .ok (.ifCond .gt 19, 3) := by decide +kernel
theorem dX1_countBefore_30 : decode cX1_countBefore 30 = .ok (.iload 5, 2) := by decide +kernel
theorem dX1_countBefore_32 : decode cX1_countBefore 32 = .ok (.ifCond .ne 17, 3) := by decide +kernel
theorem dX1_countBefore_35 : decode cX1_countBefore 35 = .ok (.aload_n 0, 1) := by decide +kernel
theorem dX1_countBefore_36 : decode cX1_countBefore 36 = .ok (.getfield 15, 3) := by decide +kernel
theorem dX1_countBefore_39 : decode cX1_countBefore 39 = .ok (.iload 4, 2) := by decide +kernel
theorem dX1_countBefore_41 : decode cX1_countBefore 41 = .ok (.iaload, 1) := by decide +kernel
theorem dX1_countBefore_42 : decode cX1_countBefore 42 = .ok (.iload_n 3, 1) := by decide +kernel
theorem dX1_countBefore_43 : decode cX1_countBefore 43 = .ok (.if_icmp .lt 6, 3) := by decide +kernel
theorem dX1_countBefore_46 : decode cX1_countBefore 46 = .ok (.iload 4, 2) := by decide +kernel
theorem dX1_countBefore_48 : decode cX1_countBefore 48 = .ok (.ireturn, 1) := by decide +kernel
theorem dX1_countBefore_49 : decode cX1_countBefore 49 = .ok (.iinc 4 1, 3) := by decide +kernel
theorem dX1_countBefore_52 : decode cX1_countBefore 52 = .ok (.goto (-49), 3) := by decide +kernel
theorem dX1_countBefore_55 : decode cX1_countBefore 55 = .ok (.aload_n 0, 1) := by decide +kernel
theorem dX1_countBefore_56 : decode cX1_countBefore 56 = .ok (.getfield 22, 3) := by decide +kernel
theorem dX1_countBefore_59 : decode cX1_countBefore 59 = .ok (.ireturn, 1) := by decide +kernel
theorem dX1_countBeginningWith_0 : decode cX1_countBeginningWith 0 = .ok (.iconst 0, 1) := by decide +kernel
theorem dX1_countBeginningWith_1 : decode cX1_countBeginningWith 1 = .ok (.istore 4, 2) := by decide +kernel
theorem dX1_countBeginningWith_3 : decode cX1_countBeginningWith 3 = .ok (.iconst 0, 1) := by decide +kernel
theorem dX1_countBeginningWith_4 : decode cX1_countBeginningWith 4 = .ok (.istore 5, 2) := by decide +kernel
theorem dX1_countBeginningWith_6 : decode cX1_countBeginningWith 6 = .ok (.iload 5, 2) := by decide +kernel
theorem dX1_countBeginningWith_8 : decode cX1_countBeginningWith 8 = .ok (.aload_n 0, 1) := by decide +kernel
theorem dX1_countBeginningWith_9 : decode cX1_countBeginningWith 9 = .ok (.getfield 22, 3) := by decide +kernel
theorem dX1_countBeginningWith_12 : decode cX1_countBeginningWith 12 = .ok (.if_icmp .ge 35, 3) := by decide +kernel
theorem dX1_countBeginningWith_15 : decode cX1_countBeginningWith 15 = .ok (.aload_n 0, 1) := by decide +kernel
theorem dX1_countBeginningWith_16 : decode cX1_countBeginningWith 16 = .ok (.getfield 9, 3) := by decide +kernel
theorem dX1_countBeginningWith_19 : decode cX1_countBeginningWith 19 = .ok (.iload 5, 2) := by decide +kernel
theorem dX1_countBeginningWith_21 : decode cX1_countBeginningWith 21 = .ok (.laload, 1) := by decide +kernel
theorem dX1_countBeginningWith_22 : decode cX1_countBeginningWith 22 = .ok (.aload_n 0, 1) := by decide +kernel
theorem dX1_countBeginningWith_23 : decode cX1_countBeginningWith 23 = .ok (.getfield 15, 3) := by decide +kernel
theorem dX1_countBeginningWith_26 : decode cX1_countBeginningWith 26 = .ok (.iload 5, 2) := by decide +kernel
theorem dX1_countBeginningWith_28 : decode cX1_countBeginningWith 28 = .ok (.iaload, 1) := by decide +kernel
theorem dX1_countBeginningWith_29 : decode cX1_countBeginningWith 29 = .ok (.lload_n 1, 1) := by decide +kernel
theorem dX1_countBeginningWith_30 : decode cX1_countBeginningWith 30 = .ok (.iload_n 3, 1) := by decide +kernel
theorem dX1_countBeginningWith_31 : decode cX1_countBeginningWith 31 = .ok (.invokestatic 36, 3) := by decide +kernel
theorem dX1_countBeginningWith_34 : decode cX1_countBeginningWith 34 = .ok (.iload_n 3, 1) := by decide +kernel
theorem dX1_countBeginningWith_35 : decode cX1_countBeginningWith 35 = .ok (.if_icmp .ne 6, 3) := by decide +kernel
theorem dX1_countBeginningWith_38 : decode cX1_countBeginningWith 38 = .ok (.iinc 4 1, 3) := by decide +kernel
theorem dX1_countBeginningWith_41 : decode cX1_countBeginningWith 41 = .ok (.iinc 5 1, 3) := by decide +kernel
theorem dX1_countBeginningWith_44 : decode cX1_countBeginningWith 44 = .ok (.goto (-38), 3) := by decide +kernel
theorem dX1_countBeginningWith_47 : decode cX1_countBeginningWith 47 = .ok (.iload 4, 2) := by decide +kernel
theorem dX1_countBeginningWith_49 : decode cX1_countBeginningWith 49 = .ok (.ireturn, 1) := by decide +kernel
theorem dX1_forkBehind_0 : decode cX1_forkBehind 0 = .ok (.aload_n 0, 1) := by decide +kernel
theorem dX1_forkBehind_1 : decode cX1_forkBehind 1 = .ok (.iload_n 1, 1) := by decide +kernel
theorem dX1_forkBehind_2 : decode cX1_forkBehind 2 = .ok (.invokevirtual 26, 3) := by decide +kernel
theorem dX1_forkBehind_5 : decode cX1_forkBehind 5 = .ok (.ifCond .eq 13, 3) := by decide +kernel
theorem dX1_forkBehind_8 : decode cX1_forkBehind 8 = .ok (.aload_n 0, 1) := by decide +kernel
theorem dX1_forkBehind_9 : decode cX1_forkBehind 9 = .ok (.iload_n 1, 1) := by decide +kernel
theorem dX1_forkBehind_10 : decode cX1_forkBehind 10 = .ok (.iconst 1, 1) := by decide +kernel
theorem dX1_forkBehind_11 : decode cX1_forkBehind 11 = .ok (.iadd, 1) := by decide +kernel
theorem dX1_forkBehind_12 : decode cX1_forkBehind 12 = .ok (.invokevirtual 26, 3) := by decide +kernel
theorem dX1_forkBehind_15 : decode cX1_forkBehind 15 = .ok (.ifCond .ne 5, 3) := by decide +kernel
theorem dX1_forkBehind_18 : decode cX1_forkBehind 18 = .ok (.iconst (-1), 1) := by decide +kernel
theorem dX1_forkBehind_19 : decode cX1_forkBehind 19 = .ok (.ireturn, 1) := by decide +kernel
theorem dX1_forkBehind_20 : decode cX1_forkBehind 20 = .ok (.aload_n 0, 1) := by decide +kernel
theorem dX1_forkBehind_21 : decode cX1_forkBehind 21 = .ok (.getfield 9, 3) := by decide +kernel
theorem dX1_forkBehind_24 : decode cX1_forkBehind 24 = .ok (.iload_n 1, 1) := by decide +kernel
theorem dX1_forkBehind_25 : decode cX1_forkBehind 25 = .ok (.laload, 1) := by decide +kernel
theorem dX1_forkBehind_26 : decode cX1_forkBehind 26 = .ok (.aload_n 0, 1) := by decide +kernel
theorem dX1_forkBehind_27 : decode cX1_forkBehind 27 = .ok (.getfield 15, 3) := by decide +kernel
theorem dX1_forkBehind_30 : decode cX1_forkBehind 30 = .ok (.iload_n 1, 1) := by decide +kernel
theorem dX1_forkBehind_31 : decode cX1_forkBehind 31 = .ok (.iaload, 1) := by decide +kernel
theorem dX1_forkBehind_32 : decode cX1_forkBehind 32 = .ok (.aload_n 0, 1) := by decide +kernel
theorem dX1_forkBehind_33 : decode cX1_forkBehind 33 = .ok (.getfield 9, 3) := by decide +kernel
theorem dX1_forkBehind_36 : decode cX1_forkBehind 36 = .ok (.iload_n 1, 1) := by decide +kernel
theorem dX1_forkBehind_37 : decode cX1_forkBehind 37 = .ok (.iconst 1, 1) := by decide +kernel
theorem dX1_forkBehind_38 : decode cX1_forkBehind 38 = .ok (.iadd, 1) := by decide +kernel
theorem dX1_forkBehind_39 : decode cX1_forkBehind 39 = .ok (.laload, 1) := by decide +kernel
theorem dX1_forkBehind_40 : decode cX1_forkBehind 40 = .ok (.aload_n 0, 1) := by decide +kernel
theorem dX1_forkBehind_41 : decode cX1_forkBehind 41 = .ok (.getfield 15, 3) := by decide +kernel
theorem dX1_forkBehind_44 : decode cX1_forkBehind 44 = .ok (.iload_n 1, 1) := by decide +kernel
theorem dX1_forkBehind_45 : decode cX1_forkBehind 45 = .ok (.iconst 1, 1) := by decide +kernel
theorem dX1_forkBehind_46 : decode cX1_forkBehind 46 = .ok (.iadd, 1) := by decide +kernel
theorem dX1_forkBehind_47 : decode cX1_forkBehind 47 = .ok (.iaload, 1) := by decide +kernel
theorem dX1_forkBehind_48 : decode cX1_forkBehind 48 = .ok (.invokestatic 36, 3) := by decide +kernel
theorem dX1_forkBehind_51 : decode cX1_forkBehind 51 = .ok (.ireturn, 1) := by decide +kernel
theorem dX1_countForksOnTheWayTo_0 : decode cX1_countForksOnTheWayTo 0 = .ok (.iconst 0, 1) := by decide +kernel
theorem dX1_countForksOnTheWayTo_1 : decode cX1_countForksOnTheWayTo 1 = .ok (.istore 4, 2) := by decide +kernel
theorem dX1_countForksOnTheWayTo_3 : decode cX1_countForksOnTheWayTo 3 = .ok (.iconst 0, 1) := by decide +kernel
theorem dX1_countForksOnTheWayTo_4 : decode cX1_countForksOnTheWayTo 4 = .ok (.istore 5, 2) := by decide +kernel
theorem dX1_countForksOnTheWayTo_6 : decode cX1_countForksOnTheWayTo 6 = .ok (.iload 5, 2) := by decide +kernel
theorem dX1_countForksOnTheWayTo_8 : decode cX1_countForksOnTheWayTo 8 = .ok (.iconst 1, 1) := by decide +kernel
theorem dX1_countForksOnTheWayTo_9 : decode cX1_countForksOnTheWayTo 9 = .ok (.iadd, 1) := by decide +kernel
theorem dX1_countForksOnTheWayTo_10 : decode cX1_countForksOnTheWayTo 10 = .ok (.aload_n 0, 1) := by decide +kernel
theorem dX1_countForksOnTheWayTo_11 : decode cX1_countForksOnTheWayTo 11 = .ok (.getfield 22, 3) := by decide +kernel
theorem dX1_countForksOnTheWayTo_14 : decode cX1_countForksOnTheWayTo 14 = .ok (.if_icmp .ge 55, 3) := by decide +kernel
theorem dX1_countForksOnTheWayTo_17 : decode cX1_countForksOnTheWayTo 17 = .ok (.aload_n 0, 1) := by decide +kernel
theorem dX1_countForksOnTheWayTo_18 : decode cX1_countForksOnTheWayTo 18 = .ok (.iload 5, 2) := by decide +kernel
theorem dX1_countForksOnTheWayTo_20 : decode cX1_countForksOnTheWayTo 20 = .ok (.invokevirtual 40, 3) := by decide +kernel
theorem dX1_countForksOnTheWayTo_23 : decode cX1_countForksOnTheWayTo 23 = .ok (.istore 6, 2) := by decide +kernel
theorem dX1_countForksOnTheWayTo_25 : decode cX1_countForksOnTheWayTo 25 = .ok (.iload 6, 2) := by decide +kernel
theorem dX1_countForksOnTheWayTo_27 : decode cX1_countForksOnTheWayTo 27 = .ok (.ifCond .lt 36, 3) := by decide +kernel
theorem dX1_countForksOnTheWayTo_30 : decode cX1_countForksOnTheWayTo 30 = .ok (.iload 6, 2) := by decide +kernel
theorem dX1_countForksOnTheWayTo_32 : decode cX1_countForksOnTheWayTo 32 = .ok (.aload_n 0, 1) := by decide +kernel
theorem dX1_countForksOnTheWayTo_33 : decode cX1_countForksOnTheWayTo 33 = .ok (.getfield 9, 3) := by decide +kernel
theorem dX1_countForksOnTheWayTo_36 : decode cX1_countForksOnTheWayTo 36 = .ok (.iload 5, 2) := by decide +kernel
theorem dX1_countForksOnTheWayTo_38 : decode cX1_countForksOnTheWayTo 38 = .ok (.laload, 1) := by decide +kernel
theorem dX1_countForksOnTheWayTo_39 : decode cX1_countForksOnTheWayTo 39 = .ok (.aload_n 0, 1) := by decide +kernel
theorem dX1_countForksOnTheWayTo_40 : decode cX1_countForksOnTheWayTo 40 = .ok (.getfield 15, 3) := by decide +kernel
theorem dX1_countForksOnTheWayTo_43 : decode cX1_countForksOnTheWayTo 43 = .ok (.iload 5, 2) := by decide +kernel
theorem dX1_countForksOnTheWayTo_45 : decode cX1_countForksOnTheWayTo 45 = .ok (.iaload, 1) := by decide +kernel
theorem dX1_countForksOnTheWayTo_46 : decode cX1_countForksOnTheWayTo 46 = .ok (.lload_n 1, 1) := by decide +kernel
theorem dX1_countForksOnTheWayTo_47 : decode cX1_countForksOnTheWayTo 47 = .ok (.iload_n 3, 1) := by decide +kernel
theorem dX1_countForksOnTheWayTo_48 : decode cX1_countForksOnTheWayTo 48 = .ok (.invokestatic 36, 3) := by decide +kernel
theorem dX1_countForksOnTheWayTo_51 : decode cX1_countForksOnTheWayTo 51 = .ok (.if_icmp .gt 12, 3) := by decide +kernel
theorem dX1_countForksOnTheWayTo_54 : decode cX1_countForksOnTheWayTo 54 = .ok (.iload 4, 2) := by decide +kernel
theorem dX1_countForksOnTheWayTo_56 : decode cX1_countForksOnTheWayTo 56 = .ok (.iconst 1, 1) := by decide +kernel
theorem dX1_countForksOnTheWayTo_57 : decode cX1_countForksOnTheWayTo 57 = .ok (.iload 6, 2) := by decide +kernel
theorem dX1_countForksOnTheWayTo_59 : decode cX1_countForksOnTheWayTo 59 = .ok (.ishl, 1) := by decide +kernel
theorem dX1_countForksOnTheWayTo_60 : decode cX1_countForksOnTheWayTo 60 = .ok (.ior, 1) := by decide +kernel
theorem dX1_countForksOnTheWayTo_61 : decode cX1_countForksOnTheWayTo 61 = .ok (.istore 4, 2) := by decide +kernel
theorem dX1_countForksOnTheWayTo_63 : decode cX1_countForksOnTheWayTo 63 = .ok (.iinc 5 1, 3) := by decide +kernel
theorem dX1_countForksOnTheWayTo_66 : decode cX1_countForksOnTheWayTo 66 = .ok (.goto (-60), 3) := by decide +kernel
theorem dX1_countForksOnTheWayTo_69 : decode cX1_countForksOnTheWayTo 69 = .ok (.iload 4, 2) := by decide +kernel
theorem dX1_countForksOnTheWayTo_71 : decode cX1_countForksOnTheWayTo 71 = .ok (.invokestatic 44, 3) := by decide +kernel
theorem dX1_countForksOnTheWayTo_74 : decode cX1_countForksOnTheWayTo 74 = .ok (.ireturn, 1) := by decide +kernel
theorem dX1_insert_0 : decode cX1_insert 0 = .ok (.aload_n 0, 1) := by decide +kernel
theorem dX1_insert_1 : decode cX1_insert 1 = .ok (.invokevirtual 49, 3) := by decide +kernel
theorem dX1_insert_4 : decode cX1_insert 4 = .ok (.ifCond .ne 15, 3) := by decide +kernel
theorem dX1_insert_7 : decode cX1_insert 7 = .ok (.iload_n 1, 1) := by decide +kernel
theorem dX1_insert_8 : decode cX1_insert 8 = .ok (.ifCond .lt 11, 3) := by decide +kernel
theorem dX1_insert_11 : decode cX1_insert 11 = .ok (.iload_n 1, 1) := by decide +kernel
theorem dX1_insert_12 : decode cX1_insert 12 = .ok (.aload_n 0, 1) := by decide +kernel
theorem dX1_insert_13 : decode cX1_insert 13 = .ok (.getfield 22, 3) := by decide +kernel
theorem dX1_insert_16 : decode cX1_insert 16 = .ok (.if_icmp .le 4, 3) := by decide +kernel
theorem dX1_insert_19 : decode cX1_insert 19 = .ok (.return_, 1) := by decide +kernel
theorem dX1_insert_20 : decode cX1_insert 20 = .ok (.aload_n 0, 1) := by decide +kernel
theorem dX1_insert_21 : decode cX1_insert 21 = .ok (.getfield 22, 3) := by decide +kernel
theorem dX1_insert_24 : decode cX1_insert 24 = .ok (.istore 6, 2) := by decide +kernel
theorem dX1_insert_26 : decode cX1_insert 26 = .ok (.iload 6, 2) := by decide +kernel
theorem dX1_insert_28 : decode cX1_insert 28 = .ok (.iload_n 1, 1) := by decide +kernel
theorem dX1_insert_29 : decode cX1_insert 29 = .ok (.if_icmp .le 57, 3) := by decide +kernel
theorem dX1_insert_32 : decode cX1_insert 32 = .ok (.aload_n 0, 1) := by decide +kernel
theorem dX1_insert_33 : decode cX1_insert 33 = .ok (.getfield 9, 3) := by decide +kernel
theorem dX1_insert_36 : decode cX1_insert 36 = .ok (.iload 6, 2) := by decide +kernel
theorem dX1_insert_38 : decode cX1_insert 38 = .ok (.aload_n 0, 1) := by decide +kernel
theorem dX1_insert_39 : decode cX1_insert 39 = .ok (.getfield 9, 3) := by decide +kernel
theorem dX1_insert_42 : decode cX1_insert 42 = .ok (.iload 6, 2) := by decide +kernel
theorem dX1_insert_44 : decode cX1_insert 44 = .ok (.iconst 1, 1) := by decide +kernel
theorem dX1_insert_45 : decode cX1_insert 45 = .ok (.isub, 1) := by decide +kernel
theorem dX1_insert_46 : decode cX1_insert 46 = .ok (.laload, 1) := by decide +kernel
theorem dX1_insert_47 : decode cX1_insert 47 = .ok (.lastore, 1) := by decide +kernel
theorem dX1_insert_48 : decode cX1_insert 48 = .ok (.aload_n 0, 1) := by decide +kernel
theorem dX1_insert_49 : decode cX1_insert 49 = .ok (.getfield 15, 3) := by decide +kernel
theorem dX1_insert_52 : decode cX1_insert 52 = .ok (.iload 6, 2) := by decide +kernel
theorem dX1_insert_54 : decode cX1_insert 54 = .ok (.aload_n 0, 1) := by decide +kernel
theorem dX1_insert_55 : decode cX1_insert 55 = .ok (.getfield 15, 3) := by decide +kernel
theorem dX1_insert_58 : decode cX1_insert 58 = .ok (.iload 6, 2) := by decide +kernel
theorem dX1_insert_60 : decode cX1_insert 60 = .ok (.iconst 1, 1) := by decide +kernel
theorem dX1_insert_61 : decode cX1_insert 61 = .ok (.isub, 1) := by decide +kernel
theorem dX1_insert_62 : decode cX1_insert 62 = .ok (.iaload, 1) := by decide +kernel
theorem dX1_insert_63 : decode cX1_insert 63 = .ok (.iastore, 1) := by decide +kernel
theorem dX1_insert_64 : decode cX1_insert 64 = .ok (.aload_n 0, 1) := by decide +kernel
theorem dX1_insert_65 : decode cX1_insert 65 = .ok (.getfield 19, 3) := by decide +kernel
theorem dX1_insert_68 : decode cX1_insert 68 = .ok (.iload 6, 2) := by decide +kernel
theorem dX1_insert_70 : decode cX1_insert 70 = .ok (.aload_n 0, 1) := by decide +kernel
theorem dX1_insert_71 : decode cX1_insert 71 = .ok (.getfield 19, 3) := by decide +kernel
theorem dX1_insert_74 : decode cX1_insert 74 = .ok (.iload 6, 2) := by decide +kernel
theorem dX1_insert_76 : decode cX1_insert 76 = .ok (.iconst 1, 1) := by decide +kernel
theorem dX1_insert_77 : decode cX1_insert 77 = .ok (.isub, 1) := by decide +kernel
theorem dX1_insert_78 : decode cX1_insert 78 = .ok (.iaload, 1) := by decide +kernel
theorem dX1_insert_79 : decode cX1_insert 79 = .ok (.iastore, 1) := by decide +kernel
theorem dX1_insert_80 : decode cX1_insert 80 = .ok (.iinc 6 (-1), 3) := by decide +kernel
theorem dX1_insert_83 : decode cX1_insert 83 = .ok (.goto (-57), 3) := by decide +kernel
theorem dX1_insert_86 : decode cX1_insert 86 = .ok (.aload_n 0, 1) := by decide +kernel
theorem dX1_insert_87 : decode cX1_insert 87 = .ok (.getfield 9, 3) := by decide +kernel
theorem dX1_insert_90 : decode cX1_insert 90 = .ok (.iload_n 1, 1) := by decide +kernel
theorem dX1_insert_91 : decode cX1_insert 91 = .ok (.lload_n 2, 1) := by decide +kernel
theorem dX1_insert_92 : decode cX1_insert 92 = .ok (.lastore, 1) := by decide +kernel
theorem dX1_insert_93 : decode cX1_insert 93 = .ok (.aload_n 0, 1) := by decide +kernel
theorem dX1_insert_94 : decode cX1_insert 94 = .ok (.getfield 15, 3) := by decide +kernel
theorem dX1_insert_97 : decode cX1_insert 97 = .ok (.iload_n 1, 1) := by decide +kernel
theorem dX1_insert_98 : decode cX1_insert 98 = .ok (.iload 4, 2) := by decide +kernel
theorem dX1_insert_100 : decode cX1_insert 100 = .ok (.iastore, 1) := by decide +kernel
theorem dX1_insert_101 : decode cX1_insert 101 = .ok (.aload_n 0, 1) := by decide +kernel
theorem dX1_insert_102 : decode cX1_insert 102 = .ok (.getfield 19, 3) := by decide +kernel
theorem dX1_insert_105 : decode cX1_insert 105 = .ok (.iload_n 1, 1) := by decide +kernel
theorem dX1_insert_106 : decode cX1_insert 106 = .ok (.iload 5, 2) := by decide +kernel
theorem dX1_insert_108 : decode cX1_insert 108 = .ok (.iastore, 1) := by decide +kernel
theorem dX1_insert_109 : decode cX1_insert 109 = .ok (.aload_n 0, 1) := by decide +kernel
theorem dX1_insert_110 : decode cX1_insert 110 = .ok (.dup, 1) := by decide +kernel
theorem dX1_insert_111 : decode cX1_insert 111 = .ok (.getfield 22, 3) := by decide +kernel
theorem dX1_insert_114 : decode cX1_insert 114 = .ok (.iconst 1, 1) := by decide +kernel
theorem dX1_insert_115 : decode cX1_insert 115 = .ok (.iadd, 1) := by decide +kernel
theorem dX1_insert_116 : decode cX1_insert 116 = .ok (.putfield 22, 3) := by decide +kernel
theorem dX1_insert_119 : decode cX1_insert 119 = .ok (.return_, 1) := by decide +kernel
theorem dX1_takeOut_0 : decode cX1_takeOut 0 = .ok (.aload_n 0, 1) := by decide +kernel
theorem dX1_takeOut_1 : decode cX1_takeOut 1 = .ok (.iload_n 1, 1) := by decide +kernel
theorem dX1_takeOut_2 : decode cX1_takeOut 2 = .ok (.invokevirtual 26, 3) := by decide +kernel
theorem dX1_takeOut_5 : decode cX1_takeOut 5 = .ok (.ifCond .ne 4, 3) := by decide +kernel
theorem dX1_takeOut_8 : decode cX1_takeOut 8 = .ok (.return_, 1) := by decide +kernel
theorem dX1_takeOut_9 : decode cX1_takeOut 9 = .ok (.iload_n 1, 1) := by decide +kernel
theorem dX1_takeOut_10 : decode cX1_takeOut 10 = .ok (.istore_n 2, 1) := by decide +kernel
theorem dX1_takeOut_11 : decode cX1_takeOut 11 = .ok (.iload_n 2, 1) := by decide +kernel
theorem dX1_takeOut_12 : decode cX1_takeOut 12 = .ok (.iconst 1, 1) := by decide +kernel
theorem dX1_takeOut_13 : decode cX1_takeOut 13 = .ok (.iadd, 1) := by decide +kernel
theorem dX1_takeOut_14 : decode cX1_takeOut 14 = .ok (.aload_n 0, 1) := by decide +kernel
theorem dX1_takeOut_15 : decode cX1_takeOut 15 = .ok (.getfield 22, 3) := by decide +kernel
theorem dX1_takeOut_18 : decode cX1_takeOut 18 = .ok (.if_icmp .ge 51, 3) := by decide +kernel
theorem dX1_takeOut_21 : decode cX1_takeOut 21 = .ok (.aload_n 0, 1) := by decide +kernel
theorem dX1_takeOut_22 : decode cX1_takeOut 22 = .ok (.getfield 9, 3) := by decide +kernel
theorem dX1_takeOut_25 : decode cX1_takeOut 25 = .ok (.iload_n 2, 1) := by decide +kernel
theorem dX1_takeOut_26 : decode cX1_takeOut 26 = .ok (.aload_n 0, 1) := by decide +kernel
theorem dX1_takeOut_27 : decode cX1_takeOut 27 = .ok (.getfield 9, 3) := by decide +kernel
theorem dX1_takeOut_30 : decode cX1_takeOut 30 = .ok (.iload_n 2, 1) := by decide +kernel
theorem dX1_takeOut_31 : decode cX1_takeOut 31 = .ok (.iconst 1, 1) := by decide +kernel
theorem dX1_takeOut_32 : decode cX1_takeOut 32 = .ok (.iadd, 1) := by decide +kernel
theorem dX1_takeOut_33 : decode cX1_takeOut 33 = .ok (.laload, 1) := by decide +kernel
theorem dX1_takeOut_34 : decode cX1_takeOut 34 = .ok (.lastore, 1) := by decide +kernel
theorem dX1_takeOut_35 : decode cX1_takeOut 35 = .ok (.aload_n 0, 1) := by decide +kernel
theorem dX1_takeOut_36 : decode cX1_takeOut 36 = .ok (.getfield 15, 3) := by decide +kernel
theorem dX1_takeOut_39 : decode cX1_takeOut 39 = .ok (.iload_n 2, 1) := by decide +kernel
theorem dX1_takeOut_40 : decode cX1_takeOut 40 = .ok (.aload_n 0, 1) := by decide +kernel
theorem dX1_takeOut_41 : decode cX1_takeOut 41 = .ok (.getfield 15, 3) := by decide +kernel
theorem dX1_takeOut_44 : decode cX1_takeOut 44 = .ok (.iload_n 2, 1) := by decide +kernel
theorem dX1_takeOut_45 : decode cX1_takeOut 45 = .ok (.iconst 1, 1) := by decide +kernel
theorem dX1_takeOut_46 : decode cX1_takeOut 46 = .ok (.iadd, 1) := by decide +kernel
theorem dX1_takeOut_47 : decode cX1_takeOut 47 = .ok (.iaload, 1) := by decide +kernel
theorem dX1_takeOut_48 : decode cX1_takeOut 48 = .ok (.iastore, 1) := by decide +kernel
theorem dX1_takeOut_49 : decode cX1_takeOut 49 = .ok (.aload_n 0, 1) := by decide +kernel
theorem dX1_takeOut_50 : decode cX1_takeOut 50 = .ok (.getfield 19, 3) := by decide +kernel
theorem dX1_takeOut_53 : decode cX1_takeOut 53 = .ok (.iload_n 2, 1) := by decide +kernel
theorem dX1_takeOut_54 : decode cX1_takeOut 54 = .ok (.aload_n 0, 1) := by decide +kernel
theorem dX1_takeOut_55 : decode cX1_takeOut 55 = .ok (.getfield 19, 3) := by decide +kernel
theorem dX1_takeOut_58 : decode cX1_takeOut 58 = .ok (.iload_n 2, 1) := by decide +kernel
theorem dX1_takeOut_59 : decode cX1_takeOut 59 = .ok (.iconst 1, 1) := by decide +kernel
theorem dX1_takeOut_60 : decode cX1_takeOut 60 = .ok (.iadd, 1) := by decide +kernel
theorem dX1_takeOut_61 : decode cX1_takeOut 61 = .ok (.iaload, 1) := by decide +kernel
theorem dX1_takeOut_62 : decode cX1_takeOut 62 = .ok (.iastore, 1) := by decide +kernel
theorem dX1_takeOut_63 : decode cX1_takeOut 63 = .ok (.iinc 2 1, 3) := by decide +kernel
theorem dX1_takeOut_66 : decode cX1_takeOut 66 = .ok (.goto (-55), 3) := by decide +kernel
theorem dX1_takeOut_69 : decode cX1_takeOut 69 = .ok (.aload_n 0, 1) := by decide +kernel
theorem dX1_takeOut_70 : decode cX1_takeOut 70 = .ok (.dup, 1) := by decide +kernel
theorem dX1_takeOut_71 : decode cX1_takeOut 71 = .ok (.getfield 22, 3) := by decide +kernel
theorem dX1_takeOut_74 : decode cX1_takeOut 74 = .ok (.iconst 1, 1) := by decide +kernel
theorem dX1_takeOut_75 : decode cX1_takeOut 75 = .ok (.isub, 1) := by decide +kernel
theorem dX1_takeOut_76 : decode cX1_takeOut 76 = .ok (.putfield 22, 3) := by decide +kernel
theorem dX1_takeOut_79 : decode cX1_takeOut 79 = .ok (.return_, 1) := by decide +kernel
theorem dX1_copyFrom_0 : decode cX1_copyFrom 0 = .ok (.iconst 0, 1) := by decide +kernel
theorem dX1_copyFrom_1 : decode cX1_copyFrom 1 = .ok (.istore_n 2, 1) := by decide +kernel
theorem dX1_copyFrom_2 : decode cX1_copyFrom 2 = .ok (.iload_n 2, 1) := by decide +kernel
theorem dX1_copyFrom_3 : decode cX1_copyFrom 3 = .ok (.aload_n 1, 1) := by decide +kernel
theorem dX1_copyFrom_4 : decode cX1_copyFrom 4 = .ok (.getfield 22, 3) := by decide +kernel
theorem dX1_copyFrom_7 : decode cX1_copyFrom 7 = .ok (.if_icmp .ge 45, 3) := by decide +kernel
theorem dX1_copyFrom_10 : decode cX1_copyFrom 10 = .ok (.aload_n 0, 1) := by decide +kernel
theorem dX1_copyFrom_11 : decode cX1_copyFrom 11 = .ok (.getfield 9, 3) := by decide +kernel
theorem dX1_copyFrom_14 : decode cX1_copyFrom 14 = .ok (.iload_n 2, 1) := by decide +kernel
theorem dX1_copyFrom_15 : decode cX1_copyFrom 15 = .ok (.aload_n 1, 1) := by decide +kernel
theorem dX1_copyFrom_16 : decode cX1_copyFrom 16 = .ok (.getfield 9, 3) := by decide +kernel
theorem dX1_copyFrom_19 : decode cX1_copyFrom 19 = .ok (.iload_n 2, 1) := by decide +kernel
theorem dX1_copyFrom_20 : decode cX1_copyFrom 20 = .ok (.laload, 1) := by decide +kernel
theorem dX1_copyFrom_21 : decode cX1_copyFrom 21 = .ok (.lastore, 1) := by decide +kernel
theorem dX1_copyFrom_22 : decode cX1_copyFrom 22 = .ok (.aload_n 0, 1) := by decide +kernel
theorem dX1_copyFrom_23 : decode cX1_copyFrom 23 = .ok (.getfield 15, 3) := by decide +kernel
theorem dX1_copyFrom_26 : decode cX1_copyFrom 26 = .ok (.iload_n 2, 1) := by decide +kernel
theorem dX1_copyFrom_27 : decode cX1_copyFrom 27 = .ok (.aload_n 1, 1) := by decide +kernel
theorem dX1_copyFrom_28 : decode cX1_copyFrom 28 = .ok (.getfield 15, 3) := by decide +kernel
theorem dX1_copyFrom_31 : decode cX1_copyFrom 31 = .ok (.iload_n 2, 1) := by decide +kernel
theorem dX1_copyFrom_32 : decode cX1_copyFrom 32 = .ok (.iaload, 1) := by decide +kernel
theorem dX1_copyFrom_33 : decode cX1_copyFrom 33 = .ok (.iastore, 1) := by decide +kernel
theorem dX1_copyFrom_34 : decode cX1_copyFrom 34 = .ok (.aload_n 0, 1) := by decide +kernel
theorem dX1_copyFrom_35 : decode cX1_copyFrom 35 = .ok (.getfield 19, 3) := by decide +kernel
theorem dX1_copyFrom_38 : decode cX1_copyFrom 38 = .ok (.iload_n 2, 1) := by decide +kernel
theorem dX1_copyFrom_39 : decode cX1_copyFrom 39 = .ok (.aload_n 1, 1) := by decide +kernel
theorem dX1_copyFrom_40 : decode cX1_copyFrom 40 = .ok (.getfield 19, 3) := by decide +kernel
theorem dX1_copyFrom_43 : decode cX1_copyFrom 43 = .ok (.iload_n 2, 1) := by decide +kernel
theorem dX1_copyFrom_44 : decode cX1_copyFrom 44 = .ok (.iaload, 1) := by decide +kernel
theorem dX1_copyFrom_45 : decode cX1_copyFrom 45 = .ok (.iastore, 1) := by decide +kernel
theorem dX1_copyFrom_46 : decode cX1_copyFrom 46 = .ok (.iinc 2 1, 3) := by decide +kernel
theorem dX1_copyFrom_49 : decode cX1_copyFrom 49 = .ok (.goto (-47), 3) := by decide +kernel
theorem dX1_copyFrom_52 : decode cX1_copyFrom 52 = .ok (.aload_n 0, 1) := by decide +kernel
theorem dX1_copyFrom_53 : decode cX1_copyFrom 53 = .ok (.aload_n 1, 1) := by decide +kernel
theorem dX1_copyFrom_54 : decode cX1_copyFrom 54 = .ok (.getfield 22, 3) := by decide +kernel
theorem dX1_copyFrom_57 : decode cX1_copyFrom 57 = .ok (.putfield 22, 3) := by decide +kernel
theorem dX1_copyFrom_60 : decode cX1_copyFrom 60 = .ok (.return_, 1) := by decide +kernel
theorem dX2_init_0 : decode cX2_init 0 = .ok (.aload_n 0, 1) := by decide +kernel
theorem dX2_init_1 : decode cX2_init 1 = .ok (.invokespecial 3, 3) := by decide +kernel
theorem dX2_init_4 : decode cX2_init 4 = .ok (.aload_n 0, 1) := by decide +kernel
theorem dX2_init_5 : decode cX2_init 5 = .ok (.new 9, 3) := by decide +kernel
theorem dX2_init_8 : decode cX2_init 8 = .ok (.dup, 1) := by decide +kernel
theorem dX2_init_9 : decode cX2_init 9 = .ok (.invokespecial 11, 3) := by decide +kernel
theorem dX2_init_12 : decode cX2_init 12 = .ok (.putfield 12, 3) := by decide +kernel
theorem dX2_init_15 : decode cX2_init 15 = .ok (.aload_n 0, 1) := by decide +kernel
theorem dX2_init_16 : decode cX2_init 16 = .ok (.iconst 0, 1) := by decide +kernel
theorem dX2_init_17 : decode cX2_init 17 = .ok (.putfield 18, 3) := by decide +kernel
theorem dX2_init_20 : decode cX2_init 20 = .ok (.aload_n 0, 1) := by decide +kernel
theorem dX2_init_21 : decode cX2_init 21 = .ok (.iconst (-1), 1) := by decide +kernel
theorem dX2_init_22 : decode cX2_init 22 = .ok (.putfield 22, 3) := by decide +kernel
theorem dX2_init_25 : decode cX2_init 25 = .ok (.return_, 1) := by decide +kernel
theorem dX2_isOpen_0 : decode cX2_isOpen 0 = .ok (.aload_n 0, 1) := by decide +kernel
theorem dX2_isOpen_1 : decode cX2_isOpen 1 = .ok (.getfield 18, 3) := by decide +kernel
theorem dX2_isOpen_4 : decode cX2_isOpen 4 = .ok (.ireturn, 1) := by decide +kernel
theorem dX2_begin_0 : decode cX2_begin 0 = .ok (.aload_n 0, 1) := by decide +kernel
theorem dX2_begin_1 : decode cX2_begin 1 = .ok (.getfield 12, 3) := by decide +kernel
theorem dX2_begin_4 : decode cX2_begin 4 = .ok (.aload_n 1, 1) := by decide +kernel
theorem dX2_begin_5 : decode cX2_begin 5 = .ok (.invokevirtual 26, 3) := by decide +kernel
theorem dX2_begin_8 : decode cX2_begin 8 = .ok (.aload_n 0, 1) := by decide +kernel
theorem dX2_begin_9 : decode cX2_begin 9 = .ok (.iconst (-1), 1) := by decide +kernel
theorem dX2_begin_10 : decode cX2_begin 10 = .ok (.putfield 22, 3) := by decide +kernel
theorem dX2_begin_13 : decode cX2_begin 13 = .ok (.aload_n 0, 1) := by decide +kernel
theorem dX2_begin_14 : decode cX2_begin 14 = .ok (.iconst 1, 1) := by decide +kernel
theorem dX2_begin_15 : decode cX2_begin 15 = .ok (.putfield 18, 3) := by decide +kernel
theorem dX2_begin_18 : decode cX2_begin 18 = .ok (.return_, 1) := by decide +kernel
theorem dX2_end_0 : decode cX2_end 0 = .ok (.aload_n 0, 1) := by decide +kernel
theorem dX2_end_1 : decode cX2_end 1 = .ok (.iconst 0, 1) := by decide +kernel
theorem dX2_end_2 : decode cX2_end 2 = .ok (.putfield 18, 3) := by decide +kernel
theorem dX2_end_5 : decode cX2_end 5 = .ok (.return_, 1) := by decide +kernel
theorem dX2_goToOrBehind_0 : decode cX2_goToOrBehind 0 = .ok (.aload_n 0, 1) := by decide +kernel
theorem dX2_goToOrBehind_1 : decode cX2_goToOrBehind 1 = .ok (.aload_n 0, 1) := by decide +kernel
theorem dX2_goToOrBehind_2 : decode cX2_goToOrBehind 2 = .ok (.getfield 12, 3) := by decide +kernel
theorem dX2_goToOrBehind_5 : decode cX2_goToOrBehind 5 = .ok (.lload_n 1, 1) := by decide +kernel
theorem dX2_goToOrBehind_6 : decode cX2_goToOrBehind 6 = .ok (.iload_n 3, 1) := by decide +kernel
theorem dX2_goToOrBehind_7 : decode cX2_goToOrBehind 7 = .ok (.invokevirtual 30, 3) := by decide +kernel
theorem dX2_goToOrBehind_10 : decode cX2_goToOrBehind 10 = .ok (.putfield 22, 3) := by decide +kernel
theorem dX2_goToOrBehind_13 : decode cX2_goToOrBehind 13 = .ok (.aload_n 0, 1) := by decide +kernel
theorem dX2_goToOrBehind_14 : decode cX2_goToOrBehind 14 = .ok (.getfield 12, 3) := by decide +kernel
theorem dX2_goToOrBehind_17 : decode cX2_goToOrBehind 17 = .ok (.aload_n 0, 1) := by decide +kernel
theorem dX2_goToOrBehind_18 : decode cX2_goToOrBehind 18 = .ok (.getfield 22, 3) := by decide +kernel
theorem dX2_goToOrBehind_21 : decode cX2_goToOrBehind 21 = .ok (.invokevirtual 34, 3) := by decide +kernel
theorem dX2_goToOrBehind_24 : decode cX2_goToOrBehind 24 = .ok (.ireturn, 1) := by decide +kernel
theorem dX2_goOn_0 : decode cX2_goOn 0 = .ok (.aload_n 0, 1) := by decide +kernel
theorem dX2_goOn_1 : decode cX2_goOn 1 = .ok (.aload_n 0, 1) := by decide +kernel
theorem dX2_goOn_2 : decode cX2_goOn 2 = .ok (.getfield 22, 3) := by decide +kernel
theorem dX2_goOn_5 : decode cX2_goOn 5 = .ok (.iconst 1, 1) := by decide +kernel
theorem dX2_goOn_6 : decode cX2_goOn 6 = .ok (.iadd, 1) := by decide +kernel
theorem dX2_goOn_7 : decode cX2_goOn 7 = .ok (.aload_n 0, 1) := by decide +kernel
theorem dX2_goOn_8 : decode cX2_goOn 8 = .ok (.getfield 12, 3) := by decide +kernel
theorem dX2_goOn_11 : decode cX2_goOn 11 = .ok (.invokevirtual 38, 3) := by decide +kernel
theorem dX2_goOn_14 : decode cX2_goOn 14 = .ok (.invokestatic 42, 3) := by decide +kernel
theorem dX2_goOn_17 : decode cX2_goOn 17 = .ok (.putfield 22, 3) := by decide +kernel
theorem dX2_goOn_20 : decode cX2_goOn 20 = .ok (.aload_n 0, 1) := by decide +kernel
theorem dX2_goOn_21 : decode cX2_goOn 21 = .ok (.getfield 12, 3) := by decide +kernel
theorem dX2_goOn_24 : decode cX2_goOn 24 = .ok (.aload_n 0, 1) := by decide +kernel
theorem dX2_goOn_25 : decode cX2_goOn 25 = .ok (.getfield 22, 3) := by decide +kernel
theorem dX2_goOn_28 : decode cX2_goOn 28 = .ok (.invokevirtual 34, 3) := by decide +kernel
theorem dX2_goOn_31 : decode cX2_goOn 31 = .ok (.ireturn, 1) := by decide +kernel
theorem dX2_bytesHere_0 : decode cX2_bytesHere 0 = .ok (.aload_n 0, 1) := by decide +kernel
theorem dX2_bytesHere_1 : decode cX2_bytesHere 1 = .ok (.getfield 12, 3) := by decide +kernel
theorem dX2_bytesHere_4 : decode cX2_bytesHere 4 = .ok (.aload_n 0, 1) := by decide +kernel
theorem dX2_bytesHere_5 : decode cX2_bytesHere 5 = .ok (.getfield 22, 3) := by decide +kernel
theorem dX2_bytesHere_8 : decode cX2_bytesHere 8 = .ok (.invokevirtual 48, 3) := by decide +kernel
theorem dX2_bytesHere_11 : decode cX2_bytesHere 11 = .ok (.lreturn, 1) := by decide +kernel
theorem dX2_sizeHere_0 : decode cX2_sizeHere 0 = .ok (.aload_n 0, 1) := by decide +kernel
theorem dX2_sizeHere_1 : decode cX2_sizeHere 1 = .ok (.getfield 12, 3) := by decide +kernel
theorem dX2_sizeHere_4 : decode cX2_sizeHere 4 = .ok (.aload_n 0, 1) := by decide +kernel
theorem dX2_sizeHere_5 : decode cX2_sizeHere 5 = .ok (.getfield 22, 3) := by decide +kernel
theorem dX2_sizeHere_8 : decode cX2_sizeHere 8 = .ok (.invokevirtual 52, 3) := by decide +kernel
theorem dX2_sizeHere_11 : decode cX2_sizeHere 11 = .ok (.ireturn, 1) := by decide +kernel
theorem dX2_numberHere_0 : decode cX2_numberHere 0 = .ok (.aload_n 0, 1) := by decide +kernel
theorem dX2_numberHere_1 : decode cX2_numberHere 1 = .ok (.getfield 12, 3) := by decide +kernel
theorem dX2_numberHere_4 : decode cX2_numberHere 4 = .ok (.aload_n 0, 1) := by decide +kernel
theorem dX2_numberHere_5 : decode cX2_numberHere 5 = .ok (.getfield 22, 3) := by decide +kernel
theorem dX2_numberHere_8 : decode cX2_numberHere 8 = .ok (.invokevirtual 56, 3) := by decide +kernel
theorem dX2_numberHere_11 : decode cX2_numberHere 11 = .ok (.ireturn, 1) := by decide +kernel
theorem dX3_init_0 : decode cX3_init 0 = .ok (.aload_n 0, 1) := by decide +kernel
theorem dX3_init_1 : decode cX3_init 1 = .ok (.invokespecial 1, 3) := by decide +kernel
theorem dX3_init_4 : decode cX3_init 4 = .ok (.aload_n 0, 1) := by decide +kernel
theorem dX3_init_5 : decode cX3_init 5 = .ok (.new 7, 3) := by decide +kernel
theorem dX3_init_8 : decode cX3_init 8 = .ok (.dup, 1) := by decide +kernel
theorem dX3_init_9 : decode cX3_init 9 = .ok (.invokespecial 9, 3) := by decide +kernel
theorem dX3_init_12 : decode cX3_init 12 = .ok (.putfield 10, 3) := by decide +kernel
theorem dX3_init_15 : decode cX3_init 15 = .ok (.aload_n 0, 1) := by decide +kernel
theorem dX3_init_16 : decode cX3_init 16 = .ok (.new 16, 3) := by decide +kernel
theorem dX3_init_19 : decode cX3_init 19 = .ok (.dup, 1) := by decide +kernel
theorem dX3_init_20 : decode cX3_init 20 = .ok (.invokespecial 18, 3) := by decide +kernel
theorem dX3_init_23 : decode cX3_init 23 = .ok (.putfield 19, 3) := by decide +kernel
theorem dX3_init_26 : decode cX3_init 26 = .ok (.aload_n 0, 1) := by decide +kernel
theorem dX3_init_27 : decode cX3_init 27 = .ok (.iconst 3, 1) := by decide +kernel
theorem dX3_init_28 : decode cX3_init 28 = .ok (.anewarray 23, 3) := by decide +kernel
theorem dX3_init_31 : decode cX3_init 31 = .ok (.putfield 25, 3) := by decide +kernel
theorem dX3_init_34 : decode cX3_init 34 = .ok (.iconst 0, 1) := by decide +kernel
theorem dX3_init_35 : decode cX3_init 35 = .ok (.istore_n 1, 1) := by decide +kernel
theorem dX3_init_36 : decode cX3_init 36 = .ok (.iload_n 1, 1) := by decide +kernel
theorem dX3_init_37 : decode cX3_init 37 = .ok (.iconst 3, 1) := by decide +kernel
theorem dX3_init_38 : decode cX3_init 38 = .ok (.if_icmp .ge 22, 3) := by decide +kernel
theorem dX3_init_41 : decode cX3_init 41 = .ok (.aload_n 0, 1) := by decide +kernel
theorem dX3_init_42 : decode cX3_init 42 = .ok (.getfield 25, 3) := by decide +kernel
theorem dX3_init_45 : decode cX3_init 45 = .ok (.iload_n 1, 1) := by decide +kernel
theorem dX3_init_46 : decode cX3_init 46 = .ok (.new 23, 3) := by decide +kernel
theorem dX3_init_49 : decode cX3_init 49 = .ok (.dup, 1) := by decide +kernel
theorem dX3_init_50 : decode cX3_init 50 = .ok (.invokespecial 29, 3) := by decide +kernel
theorem dX3_init_53 : decode cX3_init 53 = .ok (.aastore, 1) := by decide +kernel
theorem dX3_init_54 : decode cX3_init 54 = .ok (.iinc 1 1, 3) := by decide +kernel
theorem dX3_init_57 : decode cX3_init 57 = .ok (.goto (-21), 3) := by decide +kernel
theorem dX3_init_60 : decode cX3_init 60 = .ok (.return_, 1) := by decide +kernel
theorem dX3_put_0 : decode cX3_put 0 = .ok (.iload_n 3, 1) := by decide +kernel
theorem dX3_put_1 : decode cX3_put 1 = .ok (.invokestatic 30, 3) := by decide +kernel
theorem dX3_put_4 : decode cX3_put 4 = .ok (.ifCond .ne 13, 3) := by decide +kernel
theorem dX3_put_7 : decode cX3_put 7 = .ok (.new 34, 3) := by decide +kernel
theorem dX3_put_10 : decode cX3_put 10 = .ok (.dup, 1) := by decide +kernel
theorem dX3_put_11 : decode cX3_put 11 = .ok (.ldc 36, 2) := by decide +kernel
theorem dX3_put_13 : decode cX3_put 13 = .ok (.invokespecial 38, 3) := by decide +kernel
theorem dX3_put_16 : decode cX3_put 16 = .ok (.athrow, 1) := by decide +kernel
theorem dX3_put_17 : decode cX3_put 17 = .ok (.lload_n 1, 1) := by decide +kernel
theorem dX3_put_18 : decode cX3_put 18 = .ok (.iload_n 3, 1) := by decide +kernel
theorem dX3_put_19 : decode cX3_put 19 = .ok (.invokestatic 41, 3) := by decide +kernel
theorem dX3_put_22 : decode cX3_put 22 = .ok (.lstore 5, 2) := by decide +kernel
theorem dX3_put_24 : decode cX3_put 24 = .ok (.aload_n 0, 1) := by decide +kernel
theorem dX3_put_25 : decode cX3_put 25 = .ok (.getfield 10, 3) := by decide +kernel
theorem dX3_put_28 : decode cX3_put 28 = .ok (.lload 5, 2) := by decide +kernel
theorem dX3_put_30 : decode cX3_put 30 = .ok (.iload_n 3, 1) := by decide +kernel
theorem dX3_put_31 : decode cX3_put 31 = .ok (.invokevirtual 45, 3) := by decide +kernel
theorem dX3_put_34 : decode cX3_put 34 = .ok (.istore 7, 2) := by decide +kernel
theorem dX3_put_36 : decode cX3_put 36 = .ok (.aload_n 0, 1) := by decide +kernel
theorem dX3_put_37 : decode cX3_put 37 = .ok (.getfield 10, 3) := by decide +kernel
theorem dX3_put_40 : decode cX3_put 40 = .ok (.iload 7, 2) := by decide +kernel
theorem dX3_put_42 : decode cX3_put 42 = .ok (.lload 5, 2) := by decide +kernel
theorem dX3_put_44 : decode cX3_put 44 = .ok (.iload_n 3, 1) := by decide +kernel
theorem dX3_put_45 : decode cX3_put 45 = .ok (.invokevirtual 49, 3) := by decide +kernel
theorem dX3_put_48 : decode cX3_put 48 = .ok (.ifCond .eq 16, 3) := by decide +kernel
theorem dX3_put_51 : decode cX3_put 51 = .ok (.aload_n 0, 1) := by decide +kernel
theorem dX3_put_52 : decode cX3_put 52 = .ok (.getfield 10, 3) := by decide +kernel
theorem dX3_put_55 : decode cX3_put 55 = .ok (.iload 7, 2) := by decide +kernel
theorem dX3_put_57 : decode cX3_put 57 = .ok (.iload 4, 2) := by decide +kernel
theorem dX3_put_59 : decode cX3_put 59 = .ok (.invokevirtual 53, 3) := by decide +kernel
theorem dX3_put_62 : decode cX3_put 62 = .ok (.iconst 0, 1) := by decide +kernel
theorem dX3_put_63 : decode cX3_put 63 = .ok (.ireturn, 1) := by decide +kernel
theorem dX3_put_64 : decode cX3_put 64 = .ok (.aload_n 0, 1) := by decide +kernel
theorem dX3_put_65 : decode cX3_put 65 = .ok (.getfield 10, 3) := by decide +kernel
theorem dX3_put_68 : decode cX3_put 68 = .ok (.invokevirtual 57, 3) := by decide +kernel
theorem dX3_put_71 : decode cX3_put 71 = .ok (.ifCond .eq 13, 3) := by decide +kernel
theorem dX3_put_74 : decode cX3_put 74 = .ok (.new 61, 3) := by decide +kernel
theorem dX3_put_77 : decode cX3_put 77 = .ok (.dup, 1) := by decide +kernel
theorem dX3_put_78 : decode cX3_put 78 = .ok (.ldc 63, 2) := by decide +kernel
theorem dX3_put_80 : decode cX3_put 80 = .ok (.invokespecial 65, 3) := by decide +kernel
theorem dX3_put_83 : decode cX3_put 83 = .ok (.athrow, 1) := by decide +kernel
theorem dX3_put_84 : decode cX3_put 84 = .ok (.aload_n 0, 1) := by decide +kernel
theorem dX3_put_85 : decode cX3_put 85 = .ok (.getfield 10, 3) := by decide +kernel
theorem dX3_put_88 : decode cX3_put 88 = .ok (.iload 7, 2) := by decide +kernel
theorem dX3_put_90 : decode cX3_put 90 = .ok (.lload 5, 2) := by decide +kernel
theorem dX3_put_92 : decode cX3_put 92 = .ok (.iload_n 3, 1) := by decide +kernel
theorem dX3_put_93 : decode cX3_put 93 = .ok (.iload 4, 2) := by decide +kernel
theorem dX3_put_95 : decode cX3_put 95 = .ok (.invokevirtual 66, 3) := by decide +kernel
theorem dX3_put_98 : decode cX3_put 98 = .ok (.iconst 1, 1) := by decide +kernel
theorem dX3_put_99 : decode cX3_put 99 = .ok (.ireturn, 1) := by decide +kernel
theorem dX3_get_0 : decode cX3_get 0 = .ok (.iload_n 3, 1) := by decide +kernel
theorem dX3_get_1 : decode cX3_get 1 = .ok (.invokestatic 30, 3) := by decide +kernel
theorem dX3_get_4 : decode cX3_get 4 = .ok (.ifCond .ne 13, 3) := by decide +kernel
theorem dX3_get_7 : decode cX3_get 7 = .ok (.new 34, 3) := by decide +kernel
theorem dX3_get_10 : decode cX3_get 10 = .ok (.dup, 1) := by decide +kernel
theorem dX3_get_11 : decode cX3_get 11 = .ok (.ldc 36, 2) := by decide +kernel
theorem dX3_get_13 : decode cX3_get 13 = .ok (.invokespecial 38, 3) := by decide +kernel
theorem dX3_get_16 : decode cX3_get 16 = .ok (.athrow, 1) := by decide +kernel
theorem dX3_get_17 : decode cX3_get 17 = .ok (.lload_n 1, 1) := by decide +kernel
theorem dX3_get_18 : decode cX3_get 18 = .ok (.iload_n 3, 1) := by decide +kernel
theorem dX3_get_19 : decode cX3_get 19 = .ok (.invokestatic 41, 3) := by decide +kernel
theorem dX3_get_22 : decode cX3_get 22 = .ok (.lstore 4, 2) := by decide +kernel
theorem dX3_get_24 : decode cX3_get 24 = .ok (.aload_n 0, 1) := by decide +kernel
theorem dX3_get_25 : decode cX3_get 25 = .ok (.getfield 10, 3) := by decide +kernel
theorem dX3_get_28 : decode cX3_get 28 = .ok (.lload 4, 2) := by decide +kernel
theorem dX3_get_30 : decode cX3_get 30 = .ok (.iload_n 3, 1) := by decide +kernel
theorem dX3_get_31 : decode cX3_get 31 = .ok (.invokevirtual 45, 3) := by decide +kernel
theorem dX3_get_34 : decode cX3_get 34 = .ok (.istore 6, 2) := by decide +kernel
theorem dX3_get_36 : decode cX3_get 36 = .ok (.aload_n 0, 1) := by decide +kernel
theorem dX3_get_37 : decode cX3_get 37 = .ok (.getfield 10, 3) := by decide +kernel
theorem dX3_get_40 : decode cX3_get 40 = .ok (.iload 6, 2) := by decide +kernel
theorem dX3_get_42 : decode cX3_get 42 = .ok (.lload 4, 2) := by decide +kernel
theorem dX3_get_44 : decode cX3_get 44 = .ok (.iload_n 3, 1) := by decide +kernel
theorem dX3_get_45 : decode cX3_get 45 = .ok (.invokevirtual 49, 3) := by decide +kernel
theorem dX3_get_48 : decode cX3_get 48 = .ok (.ifCond .ne 13, 3) := by decide +kernel
theorem dX3_get_51 : decode cX3_get 51 = .ok (.new 70, 3) := by decide +kernel
theorem dX3_get_54 : decode cX3_get 54 = .ok (.dup, 1) := by decide +kernel
theorem dX3_get_55 : decode cX3_get 55 = .ok (.ldc 72, 2) := by decide +kernel
theorem dX3_get_57 : decode cX3_get 57 = .ok (.invokespecial 74, 3) := by decide +kernel
theorem dX3_get_60 : decode cX3_get 60 = .ok (.athrow, 1) := by decide +kernel
theorem dX3_get_61 : decode cX3_get 61 = .ok (.aload_n 0, 1) := by decide +kernel
theorem dX3_get_62 : decode cX3_get 62 = .ok (.getfield 10, 3) := by decide +kernel
theorem dX3_get_65 : decode cX3_get 65 = .ok (.iload 6, 2) := by decide +kernel
theorem dX3_get_67 : decode cX3_get 67 = .ok (.invokevirtual 75, 3) := by decide +kernel
theorem dX3_get_70 : decode cX3_get 70 = .ok (.ireturn, 1) := by decide +kernel
theorem dX3_remove_0 : decode cX3_remove 0 = .ok (.iload_n 3, 1) := by decide +kernel
theorem dX3_remove_1 : decode cX3_remove 1 = .ok (.invokestatic 30, 3) := by decide +kernel
theorem dX3_remove_4 : decode cX3_remove 4 = .ok (.ifCond .ne 5, 3) := by decide +kernel
theorem dX3_remove_7 : decode cX3_remove 7 = .ok (.iconst 0, 1) := by decide +kernel
theorem dX3_remove_8 : decode cX3_remove 8 = .ok (.ireturn, 1) := by decide +kernel
theorem dX3_remove_9 : decode cX3_remove 9 = .ok (.lload_n 1, 1) := by decide +kernel
theorem dX3_remove_10 : decode cX3_remove 10 = .ok (.iload_n 3, 1) := by decide +kernel
theorem dX3_remove_11 : decode cX3_remove 11 = .ok (.invokestatic 41, 3) := by decide +kernel
theorem dX3_remove_14 : decode cX3_remove 14 = .ok (.lstore 4, 2) := by decide +kernel
theorem dX3_remove_16 : decode cX3_remove 16 = .ok (.aload_n 0, 1) := by decide +kernel
theorem dX3_remove_17 : decode cX3_remove 17 = .ok (.getfield 10, 3) := by decide +kernel
theorem dX3_remove_20 : decode cX3_remove 20 = .ok (.lload 4, 2) := by decide +kernel
theorem dX3_remove_22 : decode cX3_remove 22 = .ok (.iload_n 3, 1) := by decide +kernel
theorem dX3_remove_23 : decode cX3_remove 23 = .ok (.invokevirtual 45, 3) := by decide +kernel
theorem dX3_remove_26 : decode cX3_remove 26 = .ok (.istore 6, 2) := by decide +kernel
theorem dX3_remove_28 : decode cX3_remove 28 = .ok (.aload_n 0, 1) := by decide +kernel
theorem dX3_remove_29 : decode cX3_remove 29 = .ok (.getfield 10, 3) := by decide +kernel
theorem dX3_remove_32 : decode cX3_remove 32 = .ok (.iload 6, 2) := by decide +kernel
theorem dX3_remove_34 : decode cX3_remove 34 = .ok (.lload 4, 2) := by decide +kernel
theorem dX3_remove_36 : decode cX3_remove 36 = .ok (.iload_n 3, 1) := by decide +kernel
theorem dX3_remove_37 : decode cX3_remove 37 = .ok (.invokevirtual 49, 3) := by decide +kernel
theorem dX3_remove_40 : decode cX3_remove 40 = .ok (.ifCond .ne 5, 3) := by decide +kernel
theorem dX3_remove_43 : decode cX3_remove 43 = .ok (.iconst 0, 1) := by decide +kernel
theorem dX3_remove_44 : decode cX3_remove 44 = .ok (.ireturn, 1) := by decide +kernel
theorem dX3_remove_45 : decode cX3_remove 45 = .ok (.aload_n 0, 1) := by decide +kernel
theorem dX3_remove_46 : decode cX3_remove 46 = .ok (.getfield 10, 3) := by decide +kernel
theorem dX3_remove_49 : decode cX3_remove 49 = .ok (.iload 6, 2) := by decide +kernel
theorem dX3_remove_51 : decode cX3_remove 51 = .ok (.invokevirtual 79, 3) := by decide +kernel
theorem dX3_remove_54 : decode cX3_remove 54 = .ok (.iconst 1, 1) := by decide +kernel
theorem dX3_remove_55 : decode cX3_remove 55 = .ok (.ireturn, 1) := by decide +kernel
theorem dX3_size_0 : decode cX3_size 0 = .ok (.aload_n 0, 1) := by decide +kernel
theorem dX3_size_1 : decode cX3_size 1 = .ok (.getfield 10, 3) := by decide +kernel
theorem dX3_size_4 : decode cX3_size 4 = .ok (.invokevirtual 83, 3) := by decide +kernel
theorem dX3_size_7 : decode cX3_size 7 = .ok (.ireturn, 1) := by decide +kernel
theorem dX3_within_0 : decode cX3_within 0 = .ok (.iload_n 3, 1) := by decide +kernel
theorem dX3_within_1 : decode cX3_within 1 = .ok (.invokestatic 30, 3) := by decide +kernel
theorem dX3_within_4 : decode cX3_within 4 = .ok (.ifCond .eq 19, 3) := by decide +kernel
theorem dX3_within_7 : decode cX3_within 7 = .ok (.aload_n 0, 1) := by decide +kernel
theorem dX3_within_8 : decode cX3_within 8 = .ok (.getfield 10, 3) := by decide +kernel
theorem dX3_within_11 : decode cX3_within 11 = .ok (.lload_n 1, 1) := by decide +kernel
theorem dX3_within_12 : decode cX3_within 12 = .ok (.iload_n 3, 1) := by decide +kernel
theorem dX3_within_13 : decode cX3_within 13 = .ok (.invokestatic 41, 3) := by decide +kernel
theorem dX3_within_16 : decode cX3_within 16 = .ok (.iload_n 3, 1) := by decide +kernel
theorem dX3_within_17 : decode cX3_within 17 = .ok (.invokevirtual 87, 3) := by decide +kernel
theorem dX3_within_20 : decode cX3_within 20 = .ok (.goto 4, 3) := by decide +kernel
theorem dX3_within_23 : decode cX3_within 23 = .ok (.iconst 0, 1) := by decide +kernel
theorem dX3_within_24 : decode cX3_within 24 = .ok (.ireturn, 1) := by decide +kernel
theorem dX3_rank_0 : decode cX3_rank 0 = .ok (.iload_n 3, 1) := by decide +kernel
theorem dX3_rank_1 : decode cX3_rank 1 = .ok (.invokestatic 30, 3) := by decide +kernel
theorem dX3_rank_4 : decode cX3_rank 4 = .ok (.ifCond .eq 19, 3) := by decide +kernel
theorem dX3_rank_7 : decode cX3_rank 7 = .ok (.aload_n 0, 1) := by decide +kernel
theorem dX3_rank_8 : decode cX3_rank 8 = .ok (.getfield 10, 3) := by decide +kernel
theorem dX3_rank_11 : decode cX3_rank 11 = .ok (.lload_n 1, 1) := by decide +kernel
theorem dX3_rank_12 : decode cX3_rank 12 = .ok (.iload_n 3, 1) := by decide +kernel
theorem dX3_rank_13 : decode cX3_rank 13 = .ok (.invokestatic 41, 3) := by decide +kernel
theorem dX3_rank_16 : decode cX3_rank 16 = .ok (.iload_n 3, 1) := by decide +kernel
theorem dX3_rank_17 : decode cX3_rank 17 = .ok (.invokevirtual 45, 3) := by decide +kernel
theorem dX3_rank_20 : decode cX3_rank 20 = .ok (.goto 4, 3) := by decide +kernel
theorem dX3_rank_23 : decode cX3_rank 23 = .ok (.iconst (-1), 1) := by decide +kernel
theorem dX3_rank_24 : decode cX3_rank 24 = .ok (.ireturn, 1) := by decide +kernel
theorem dX3_forks_0 : decode cX3_forks 0 = .ok (.iload_n 1, 1) := by decide +kernel
theorem dX3_forks_1 : decode cX3_forks 1 = .ok (.ifCond .lt 8, 3) := by decide +kernel
theorem dX3_forks_4 : decode cX3_forks 4 = .ok (.iload_n 1, 1) := by decide +kernel
theorem dX3_forks_5 : decode cX3_forks 5 = .ok (.iconst 3, 1) := by decide +kernel
theorem dX3_forks_6 : decode cX3_forks 6 = .ok (.if_icmp .le 5, 3) := by decide +kernel
theorem dX3_forks_9 : decode cX3_forks 9 = .ok (.iconst (-1), 1) := by decide +kernel
theorem dX3_forks_10 : decode cX3_forks 10 = .ok (.ireturn, 1) := by decide +kernel
theorem dX3_forks_11 : decode cX3_forks 11 = .ok (.aload_n 0, 1) := by decide +kernel
theorem dX3_forks_12 : decode cX3_forks 12 = .ok (.getfield 19, 3) := by decide +kernel
theorem dX3_forks_15 : decode cX3_forks 15 = .ok (.aload_n 0, 1) := by decide +kernel
theorem dX3_forks_16 : decode cX3_forks 16 = .ok (.getfield 10, 3) := by decide +kernel
theorem dX3_forks_19 : decode cX3_forks 19 = .ok (.iload_n 1, 1) := by decide +kernel
theorem dX3_forks_20 : decode cX3_forks 20 = .ok (.invokevirtual 90, 3) := by decide +kernel
theorem dX3_forks_23 : decode cX3_forks 23 = .ok (.ireturn, 1) := by decide +kernel
theorem dX3_depth_0 : decode cX3_depth 0 = .ok (.iload_n 3, 1) := by decide +kernel
theorem dX3_depth_1 : decode cX3_depth 1 = .ok (.invokestatic 30, 3) := by decide +kernel
theorem dX3_depth_4 : decode cX3_depth 4 = .ok (.ifCond .eq 19, 3) := by decide +kernel
theorem dX3_depth_7 : decode cX3_depth 7 = .ok (.aload_n 0, 1) := by decide +kernel
theorem dX3_depth_8 : decode cX3_depth 8 = .ok (.getfield 10, 3) := by decide +kernel
theorem dX3_depth_11 : decode cX3_depth 11 = .ok (.lload_n 1, 1) := by decide +kernel
theorem dX3_depth_12 : decode cX3_depth 12 = .ok (.iload_n 3, 1) := by decide +kernel
theorem dX3_depth_13 : decode cX3_depth 13 = .ok (.invokestatic 41, 3) := by decide +kernel
theorem dX3_depth_16 : decode cX3_depth 16 = .ok (.iload_n 3, 1) := by decide +kernel
theorem dX3_depth_17 : decode cX3_depth 17 = .ok (.invokevirtual 94, 3) := by decide +kernel
theorem dX3_depth_20 : decode cX3_depth 20 = .ok (.goto 4, 3) := by decide +kernel
theorem dX3_depth_23 : decode cX3_depth 23 = .ok (.iconst (-1), 1) := by decide +kernel
theorem dX3_depth_24 : decode cX3_depth 24 = .ok (.ireturn, 1) := by decide +kernel
theorem dX3_open_0 : decode cX3_open 0 = .ok (.aload_n 0, 1) := by decide +kernel
theorem dX3_open_1 : decode cX3_open 1 = .ok (.iload_n 1, 1) := by decide +kernel
theorem dX3_open_2 : decode cX3_open 2 = .ok (.invokevirtual 97, 3) := by decide +kernel
theorem dX3_open_5 : decode cX3_open 5 = .ok (.astore_n 2, 1) := by decide +kernel
theorem dX3_open_6 : decode cX3_open 6 = .ok (.aload_n 2, 1) := by decide +kernel
theorem dX3_open_7 : decode cX3_open 7 = .ok (.ifnull 10, 3) := by decide +kernel
theorem dX3_open_10 : decode cX3_open 10 = .ok (.aload_n 2, 1) := by decide +kernel
theorem dX3_open_11 : decode cX3_open 11 = .ok (.invokevirtual 101, 3) := by decide +kernel
theorem dX3_open_14 : decode cX3_open 14 = .ok (.ifCond .eq 5, 3) := by decide +kernel
theorem dX3_open_17 : decode cX3_open 17 = .ok (.iconst 0, 1) := by decide +kernel
theorem dX3_open_18 : decode cX3_open 18 = .ok (.ireturn, 1) := by decide +kernel
theorem dX3_open_19 : decode cX3_open 19 = .ok (.aload_n 2, 1) := by decide +kernel
theorem dX3_open_20 : decode cX3_open 20 = .ok (.aload_n 0, 1) := by decide +kernel
theorem dX3_open_21 : decode cX3_open 21 = .ok (.getfield 10, 3) := by decide +kernel
theorem dX3_open_24 : decode cX3_open 24 = .ok (.invokevirtual 104, 3) := by decide +kernel
theorem dX3_open_27 : decode cX3_open 27 = .ok (.iconst 1, 1) := by decide +kernel
theorem dX3_open_28 : decode cX3_open 28 = .ok (.ireturn, 1) := by decide +kernel
theorem dX3_close_0 : decode cX3_close 0 = .ok (.aload_n 0, 1) := by decide +kernel
theorem dX3_close_1 : decode cX3_close 1 = .ok (.iload_n 1, 1) := by decide +kernel
theorem dX3_close_2 : decode cX3_close 2 = .ok (.invokevirtual 108, 3) := by decide +kernel
theorem dX3_close_5 : decode cX3_close 5 = .ok (.astore_n 2, 1) := by decide +kernel
theorem dX3_close_6 : decode cX3_close 6 = .ok (.aload_n 2, 1) := by decide +kernel
theorem dX3_close_7 : decode cX3_close 7 = .ok (.ifnonnull 5, 3) := by decide +kernel
theorem dX3_close_10 : decode cX3_close 10 = .ok (.iconst 0, 1) := by decide +kernel
theorem dX3_close_11 : decode cX3_close 11 = .ok (.ireturn, 1) := by decide +kernel
theorem dX3_close_12 : decode cX3_close 12 = .ok (.aload_n 2, 1) := by decide +kernel
theorem dX3_close_13 : decode cX3_close 13 = .ok (.invokevirtual 111, 3) := by decide +kernel
theorem dX3_close_16 : decode cX3_close 16 = .ok (.iconst 1, 1) := by decide +kernel
theorem dX3_close_17 : decode cX3_close 17 = .ok (.ireturn, 1) := by decide +kernel
theorem dX3_seek_0 : decode cX3_seek 0 = .ok (.iload 4, 2) := by decide +kernel
theorem dX3_seek_2 : decode cX3_seek 2 = .ok (.invokestatic 30, 3) := by decide +kernel
theorem dX3_seek_5 : decode cX3_seek 5 = .ok (.ifCond .ne 13, 3) := by decide +kernel
theorem dX3_seek_8 : decode cX3_seek 8 = .ok (.new 34, 3) := by decide +kernel
theorem dX3_seek_11 : decode cX3_seek 11 = .ok (.dup, 1) := by decide +kernel
theorem dX3_seek_12 : decode cX3_seek 12 = .ok (.ldc 36, 2) := by decide +kernel
theorem dX3_seek_14 : decode cX3_seek 14 = .ok (.invokespecial 38, 3) := by decide +kernel
theorem dX3_seek_17 : decode cX3_seek 17 = .ok (.athrow, 1) := by decide +kernel
theorem dX3_seek_18 : decode cX3_seek 18 = .ok (.aload_n 0, 1) := by decide +kernel
theorem dX3_seek_19 : decode cX3_seek 19 = .ok (.iload_n 1, 1) := by decide +kernel
theorem dX3_seek_20 : decode cX3_seek 20 = .ok (.invokevirtual 108, 3) := by decide +kernel
theorem dX3_seek_23 : decode cX3_seek 23 = .ok (.astore 5, 2) := by decide +kernel
theorem dX3_seek_25 : decode cX3_seek 25 = .ok (.aload 5, 2) := by decide +kernel
theorem dX3_seek_27 : decode cX3_seek 27 = .ok (.ifnonnull 13, 3) := by decide +kernel
theorem dX3_seek_30 : decode cX3_seek 30 = .ok (.new 61, 3) := by decide +kernel
theorem dX3_seek_33 : decode cX3_seek 33 = .ok (.dup, 1) := by decide +kernel
theorem dX3_seek_34 : decode cX3_seek 34 = .ok (.ldc 114, 2) := by decide +kernel
theorem dX3_seek_36 : decode cX3_seek 36 = .ok (.invokespecial 65, 3) := by decide +kernel
theorem dX3_seek_39 : decode cX3_seek 39 = .ok (.athrow, 1) := by decide +kernel
theorem dX3_seek_40 : decode cX3_seek 40 = .ok (.aload 5, 2) := by decide +kernel
theorem dX3_seek_42 : decode cX3_seek 42 = .ok (.lload_n 2, 1) := by decide +kernel
theorem dX3_seek_43 : decode cX3_seek 43 = .ok (.iload 4, 2) := by decide +kernel
theorem dX3_seek_45 : decode cX3_seek 45 = .ok (.invokestatic 41, 3) := by decide +kernel
theorem dX3_seek_48 : decode cX3_seek 48 = .ok (.iload 4, 2) := by decide +kernel
theorem dX3_seek_50 : decode cX3_seek 50 = .ok (.invokevirtual 116, 3) := by decide +kernel
theorem dX3_seek_53 : decode cX3_seek 53 = .ok (.ireturn, 1) := by decide +kernel
theorem dX3_next_0 : decode cX3_next 0 = .ok (.aload_n 0, 1) := by decide +kernel
theorem dX3_next_1 : decode cX3_next 1 = .ok (.iload_n 1, 1) := by decide +kernel
theorem dX3_next_2 : decode cX3_next 2 = .ok (.invokevirtual 108, 3) := by decide +kernel
theorem dX3_next_5 : decode cX3_next 5 = .ok (.astore_n 2, 1) := by decide +kernel
theorem dX3_next_6 : decode cX3_next 6 = .ok (.aload_n 2, 1) := by decide +kernel
theorem dX3_next_7 : decode cX3_next 7 = .ok (.ifnonnull 13, 3) := by decide +kernel
theorem dX3_next_10 : decode cX3_next 10 = .ok (.new 61, 3) := by decide +kernel
theorem dX3_next_13 : decode cX3_next 13 = .ok (.dup, 1) := by decide +kernel
theorem dX3_next_14 : decode cX3_next 14 = .ok (.ldc 114, 2) := by decide +kernel
theorem dX3_next_16 : decode cX3_next 16 = .ok (.invokespecial 65, 3) := by decide +kernel
theorem dX3_next_19 : decode cX3_next 19 = .ok (.athrow, 1) := by decide +kernel
theorem dX3_next_20 : decode cX3_next 20 = .ok (.aload_n 2, 1) := by decide +kernel
theorem dX3_next_21 : decode cX3_next 21 = .ok (.invokevirtual 120, 3) := by decide +kernel
theorem dX3_next_24 : decode cX3_next 24 = .ok (.ireturn, 1) := by decide +kernel
theorem dX3_key_0 : decode cX3_key 0 = .ok (.aload_n 0, 1) := by decide +kernel
theorem dX3_key_1 : decode cX3_key 1 = .ok (.iload_n 1, 1) := by decide +kernel
theorem dX3_key_2 : decode cX3_key 2 = .ok (.invokevirtual 108, 3) := by decide +kernel
theorem dX3_key_5 : decode cX3_key 5 = .ok (.astore_n 2, 1) := by decide +kernel
theorem dX3_key_6 : decode cX3_key 6 = .ok (.aload_n 2, 1) := by decide +kernel
theorem dX3_key_7 : decode cX3_key 7 = .ok (.ifnonnull 7, 3) := by decide +kernel
theorem dX3_key_10 : decode cX3_key 10 = .ok (.lconst 0, 1) := by decide +kernel
theorem dX3_key_11 : decode cX3_key 11 = .ok (.goto 7, 3) := by decide +kernel
theorem dX3_key_14 : decode cX3_key 14 = .ok (.aload_n 2, 1) := by decide +kernel
theorem dX3_key_15 : decode cX3_key 15 = .ok (.invokevirtual 123, 3) := by decide +kernel
theorem dX3_key_18 : decode cX3_key 18 = .ok (.lreturn, 1) := by decide +kernel
theorem dX3_length_0 : decode cX3_length 0 = .ok (.aload_n 0, 1) := by decide +kernel
theorem dX3_length_1 : decode cX3_length 1 = .ok (.iload_n 1, 1) := by decide +kernel
theorem dX3_length_2 : decode cX3_length 2 = .ok (.invokevirtual 108, 3) := by decide +kernel
theorem dX3_length_5 : decode cX3_length 5 = .ok (.astore_n 2, 1) := by decide +kernel
theorem dX3_length_6 : decode cX3_length 6 = .ok (.aload_n 2, 1) := by decide +kernel
theorem dX3_length_7 : decode cX3_length 7 = .ok (.ifnonnull 7, 3) := by decide +kernel
theorem dX3_length_10 : decode cX3_length 10 = .ok (.iconst (-1), 1) := by decide +kernel
theorem dX3_length_11 : decode cX3_length 11 = .ok (.goto 7, 3) := by decide +kernel
theorem dX3_length_14 : decode cX3_length 14 = .ok (.aload_n 2, 1) := by decide +kernel
theorem dX3_length_15 : decode cX3_length 15 = .ok (.invokevirtual 127, 3) := by decide +kernel
theorem dX3_length_18 : decode cX3_length 18 = .ok (.ireturn, 1) := by decide +kernel
theorem dX3_value_0 : decode cX3_value 0 = .ok (.aload_n 0, 1) := by decide +kernel
theorem dX3_value_1 : decode cX3_value 1 = .ok (.iload_n 1, 1) := by decide +kernel
theorem dX3_value_2 : decode cX3_value 2 = .ok (.invokevirtual 108, 3) := by decide +kernel
theorem dX3_value_5 : decode cX3_value 5 = .ok (.astore_n 2, 1) := by decide +kernel
theorem dX3_value_6 : decode cX3_value 6 = .ok (.aload_n 2, 1) := by decide +kernel
theorem dX3_value_7 : decode cX3_value 7 = .ok (.ifnonnull 7, 3) := by decide +kernel
theorem dX3_value_10 : decode cX3_value 10 = .ok (.iconst 0, 1) := by decide +kernel
theorem dX3_value_11 : decode cX3_value 11 = .ok (.goto 7, 3) := by decide +kernel
theorem dX3_value_14 : decode cX3_value 14 = .ok (.aload_n 2, 1) := by decide +kernel
theorem dX3_value_15 : decode cX3_value 15 = .ok (.invokevirtual 130, 3) := by decide +kernel
theorem dX3_value_18 : decode cX3_value 18 = .ok (.ireturn, 1) := by decide +kernel
theorem dX3_readerOrNull_0 : decode cX3_readerOrNull 0 = .ok (.iload_n 1, 1) := by decide +kernel
theorem dX3_readerOrNull_1 : decode cX3_readerOrNull 1 = .ok (.ifCond .lt 21, 3) := by decide +kernel
theorem dX3_readerOrNull_4 : decode cX3_readerOrNull 4 = .ok (.iload_n 1, 1) := by decide +kernel
theorem dX3_readerOrNull_5 : decode cX3_readerOrNull 5 = .ok (.aload_n 0, 1) := by decide +kernel
theorem dX3_readerOrNull_6 : decode cX3_readerOrNull 6 = .ok (.getfield 25, 3) := by decide +kernel
theorem dX3_readerOrNull_9 : decode cX3_readerOrNull 9 = .ok (.arraylength, 1) := by decide +kernel
theorem dX3_readerOrNull_10 : decode cX3_readerOrNull 10 = .ok (.if_icmp .ge 12, 3) := by decide +kernel
theorem dX3_readerOrNull_13 : decode cX3_readerOrNull 13 = .ok (.aload_n 0, 1) := by decide +kernel
theorem dX3_readerOrNull_14 : decode cX3_readerOrNull 14 = .ok (.getfield 25, 3) := by decide +kernel
theorem dX3_readerOrNull_17 : decode cX3_readerOrNull 17 = .ok (.iload_n 1, 1) := by decide +kernel
theorem dX3_readerOrNull_18 : decode cX3_readerOrNull 18 = .ok (.aaload, 1) := by decide +kernel
theorem dX3_readerOrNull_19 : decode cX3_readerOrNull 19 = .ok (.goto 4, 3) := by decide +kernel
theorem dX3_readerOrNull_22 : decode cX3_readerOrNull 22 = .ok (.aconst_null, 1) := by decide +kernel
theorem dX3_readerOrNull_23 : decode cX3_readerOrNull 23 = .ok (.areturn, 1) := by decide +kernel
theorem dX3_openReaderOrNull_0 : decode cX3_openReaderOrNull 0 = .ok (.aload_n 0, 1) := by decide +kernel
theorem dX3_openReaderOrNull_1 : decode cX3_openReaderOrNull 1 = .ok (.iload_n 1, 1) := by decide +kernel
theorem dX3_openReaderOrNull_2 : decode cX3_openReaderOrNull 2 = .ok (.invokevirtual 97, 3) := by decide +kernel
theorem dX3_openReaderOrNull_5 : decode cX3_openReaderOrNull 5 = .ok (.astore_n 2, 1) := by decide +kernel
theorem dX3_openReaderOrNull_6 : decode cX3_openReaderOrNull 6 = .ok (.aload_n 2, 1) := by decide +kernel
theorem dX3_openReaderOrNull_7 : decode cX3_openReaderOrNull 7 = .ok (.ifnull 14, 3) := by decide +kernel
theorem dX3_openReaderOrNull_10 : decode cX3_openReaderOrNull 10 = .ok (.aload_n 2, 1) := by decide +kernel
theorem dX3_openReaderOrNull_11 : decode cX3_openReaderOrNull 11 = .ok (.invokevirtual 101, 3) := by decide +kernel
theorem dX3_openReaderOrNull_14 : decode cX3_openReaderOrNull 14 = .ok (.ifCond .eq 7, 3) := by decide +kernel
theorem dX3_openReaderOrNull_17 : decode cX3_openReaderOrNull 17 = .ok (.aload_n 2, 1) := by decide +kernel
theorem dX3_openReaderOrNull_18 : decode cX3_openReaderOrNull 18 = .ok (.goto 4, 3) := by decide +kernel
theorem dX3_openReaderOrNull_21 : decode cX3_openReaderOrNull 21 = .ok (.aconst_null, 1) := by decide +kernel
theorem dX3_openReaderOrNull_22 : decode cX3_openReaderOrNull 22 = .ok (.areturn, 1) := by decide +kernel
theorem dX3_isKeySize_0 : decode cX3_isKeySize 0 = .ok (.iload_n 0, 1) := by decide +kernel
theorem dX3_isKeySize_1 : decode cX3_isKeySize 1 = .ok (.ifCond .lt 13, 3) := by decide +kernel
theorem dX3_isKeySize_4 : decode cX3_isKeySize 4 = .ok (.iload_n 0, 1) := by decide +kernel
theorem dX3_isKeySize_5 : decode cX3_isKeySize 5 = .ok (.bipush 8, 2) := by decide +kernel
theorem dX3_isKeySize_7 : decode cX3_isKeySize 7 = .ok (.if_icmp .gt 7, 3) := by decide +kernel
theorem dX3_isKeySize_10 : decode cX3_isKeySize 10 = .ok (.iconst 1, 1) := by decide +kernel
theorem dX3_isKeySize_11 : decode cX3_isKeySize 11 = .ok (.goto 4, 3) := by decide +kernel
theorem dX3_isKeySize_14 : decode cX3_isKeySize 14 = .ok (.iconst 0, 1) := by decide +kernel
theorem dX3_isKeySize_15 : decode cX3_isKeySize 15 = .ok (.ireturn, 1) := by decide +kernel
theorem dX3_highestBytes_0 : decode cX3_highestBytes 0 = .ok (.iload_n 2, 1) := by decide +kernel
theorem dX3_highestBytes_1 : decode cX3_highestBytes 1 = .ok (.ifCond .ne 7, 3) := by decide +kernel
theorem dX3_highestBytes_4 : decode cX3_highestBytes 4 = .ok (.lconst 0, 1) := by decide +kernel
theorem dX3_highestBytes_5 : decode cX3_highestBytes 5 = .ok (.goto 16, 3) := by decide +kernel
theorem dX3_highestBytes_8 : decode cX3_highestBytes 8 = .ok (.lload_n 0, 1) := by decide +kernel
theorem dX3_highestBytes_9 : decode cX3_highestBytes 9 = .ok (.ldc2_w 133, 3) := by decide +kernel
theorem dX3_highestBytes_12 : decode cX3_highestBytes 12 = .ok (.bipush 8, 2) := by decide +kernel
theorem dX3_highestBytes_14 : decode cX3_highestBytes 14 = .ok (.bipush 8, 2) := by decide +kernel
theorem dX3_highestBytes_16 : decode cX3_highestBytes 16 = .ok (.iload_n 2, 1) := by decide +kernel
theorem dX3_highestBytes_17 : decode cX3_highestBytes 17 = .ok (.isub, 1) := by decide +kernel
theorem dX3_highestBytes_18 : decode cX3_highestBytes 18 = .ok (.imul, 1) := by decide +kernel
theorem dX3_highestBytes_19 : decode cX3_highestBytes 19 = .ok (.lshl, 1) := by decide +kernel
theorem dX3_highestBytes_20 : decode cX3_highestBytes 20 = .ok (.land, 1) := by decide +kernel
theorem dX3_highestBytes_21 : decode cX3_highestBytes 21 = .ok (.lreturn, 1) := by decide +kernel
theorem dX3_bytesInCommon_0 : decode cX3_bytesInCommon 0 = .ok (.lload_n 0, 1) := by decide +kernel
theorem dX3_bytesInCommon_1 : decode cX3_bytesInCommon 1 = .ok (.lload_n 3, 1) := by decide +kernel
theorem dX3_bytesInCommon_2 : decode cX3_bytesInCommon 2 = .ok (.lxor, 1) := by decide +kernel
theorem dX3_bytesInCommon_3 : decode cX3_bytesInCommon 3 = .ok (.invokestatic 135, 3) := by decide +kernel
theorem dX3_bytesInCommon_6 : decode cX3_bytesInCommon 6 = .ok (.bipush 8, 2) := by decide +kernel
theorem dX3_bytesInCommon_8 : decode cX3_bytesInCommon 8 = .ok (.idiv, 1) := by decide +kernel
theorem dX3_bytesInCommon_9 : decode cX3_bytesInCommon 9 = .ok (.istore 6, 2) := by decide +kernel
theorem dX3_bytesInCommon_11 : decode cX3_bytesInCommon 11 = .ok (.iload 6, 2) := by decide +kernel
theorem dX3_bytesInCommon_13 : decode cX3_bytesInCommon 13 = .ok (.iload_n 2, 1) := by decide +kernel
theorem dX3_bytesInCommon_14 : decode cX3_bytesInCommon 14 = .ok (.iload 5, 2) := by decide +kernel
theorem dX3_bytesInCommon_16 : decode cX3_bytesInCommon 16 = .ok (.invokestatic 141, 3) := by decide +kernel
theorem dX3_bytesInCommon_19 : decode cX3_bytesInCommon 19 = .ok (.invokestatic 141, 3) := by decide +kernel
theorem dX3_bytesInCommon_22 : decode cX3_bytesInCommon 22 = .ok (.ireturn, 1) := by decide +kernel
end
section
theorem dX4_init_0 : decode cX4_init 0 = .ok (.aload_n 0, 1) := by decide +kernel
theorem dX4_init_1 : decode cX4_init 1 = .ok (.invokespecial 1, 3) := by decide +kernel
theorem dX4_init_4 : decode cX4_init 4 = .ok (.aload_n 0, 1) := by decide +kernel
theorem dX4_init_5 : decode cX4_init 5 = .ok (.iconst 4, 1) := by decide +kernel
theorem dX4_init_6 : decode cX4_init 6 = .ok (.newarray .int, 2) := by decide +kernel
theorem dX4_init_8 : decode cX4_init 8 = .ok (.putfield 7, 3) := by decide +kernel
theorem dX4_init_11 : decode cX4_init 11 = .ok (.aload_n 0, 1) := by decide +kernel
theorem dX4_init_12 : decode cX4_init 12 = .ok (.sipush 480, 3) := by decide +kernel
theorem dX4_init_15 : decode cX4_init 15 = .ok (.newarray .long, 2) := by decide +kernel
theorem dX4_init_17 : decode cX4_init 17 = .ok (.putfield 13, 3) := by decide +kernel
theorem dX4_init_20 : decode cX4_init 20 = .ok (.aload_n 0, 1) := by decide +kernel
theorem dX4_init_21 : decode cX4_init 21 = .ok (.sipush 480, 3) := by decide +kernel
theorem dX4_init_24 : decode cX4_init 24 = .ok (.newarray .int, 2) := by decide +kernel
theorem dX4_init_26 : decode cX4_init 26 = .ok (.putfield 17, 3) := by decide +kernel
theorem dX4_init_29 : decode cX4_init 29 = .ok (.aload_n 0, 1) := by decide +kernel
theorem dX4_init_30 : decode cX4_init 30 = .ok (.sipush 480, 3) := by decide +kernel
theorem dX4_init_33 : decode cX4_init 33 = .ok (.newarray .int, 2) := by decide +kernel
theorem dX4_init_35 : decode cX4_init 35 = .ok (.putfield 20, 3) := by decide +kernel
theorem dX4_init_38 : decode cX4_init 38 = .ok (.aload_n 0, 1) := by decide +kernel
theorem dX4_init_39 : decode cX4_init 39 = .ok (.iconst 3, 1) := by decide +kernel
theorem dX4_init_40 : decode cX4_init 40 = .ok (.newarray .boolean, 2) := by decide +kernel
theorem dX4_init_42 : decode cX4_init 42 = .ok (.putfield 23, 3) := by decide +kernel
theorem dX4_init_45 : decode cX4_init 45 = .ok (.aload_n 0, 1) := by decide +kernel
theorem dX4_init_46 : decode cX4_init 46 = .ok (.iconst 3, 1) := by decide +kernel
theorem dX4_init_47 : decode cX4_init 47 = .ok (.newarray .int, 2) := by decide +kernel
theorem dX4_init_49 : decode cX4_init 49 = .ok (.putfield 27, 3) := by decide +kernel
theorem dX4_init_52 : decode cX4_init 52 = .ok (.return_, 1) := by decide +kernel
theorem dX4_thrown_0 : decode cX4_thrown 0 = .ok (.aload_n 0, 1) := by decide +kernel
theorem dX4_thrown_1 : decode cX4_thrown 1 = .ok (.getfield 30, 3) := by decide +kernel
theorem dX4_thrown_4 : decode cX4_thrown 4 = .ok (.ireturn, 1) := by decide +kernel
theorem dX4_cut_0 : decode cX4_cut 0 = .ok (.iload_n 2, 1) := by decide +kernel
theorem dX4_cut_1 : decode cX4_cut 1 = .ok (.ifCond .ne 7, 3) := by decide +kernel
theorem dX4_cut_4 : decode cX4_cut 4 = .ok (.lconst 0, 1) := by decide +kernel
theorem dX4_cut_5 : decode cX4_cut 5 = .ok (.goto 20, 3) := by decide +kernel
theorem dX4_cut_8 : decode cX4_cut 8 = .ok (.lload_n 0, 1) := by decide +kernel
theorem dX4_cut_9 : decode cX4_cut 9 = .ok (.bipush 64, 2) := by decide +kernel
theorem dX4_cut_11 : decode cX4_cut 11 = .ok (.bipush 8, 2) := by decide +kernel
theorem dX4_cut_13 : decode cX4_cut 13 = .ok (.iload_n 2, 1) := by decide +kernel
theorem dX4_cut_14 : decode cX4_cut 14 = .ok (.imul, 1) := by decide +kernel
theorem dX4_cut_15 : decode cX4_cut 15 = .ok (.isub, 1) := by decide +kernel
theorem dX4_cut_16 : decode cX4_cut 16 = .ok (.lshr, 1) := by decide +kernel
theorem dX4_cut_17 : decode cX4_cut 17 = .ok (.bipush 64, 2) := by decide +kernel
theorem dX4_cut_19 : decode cX4_cut 19 = .ok (.bipush 8, 2) := by decide +kernel
theorem dX4_cut_21 : decode cX4_cut 21 = .ok (.iload_n 2, 1) := by decide +kernel
theorem dX4_cut_22 : decode cX4_cut 22 = .ok (.imul, 1) := by decide +kernel
theorem dX4_cut_23 : decode cX4_cut 23 = .ok (.isub, 1) := by decide +kernel
theorem dX4_cut_24 : decode cX4_cut 24 = .ok (.lshl, 1) := by decide +kernel
theorem dX4_cut_25 : decode cX4_cut 25 = .ok (.lreturn, 1) := by decide +kernel
theorem dX4_part_0 : decode cX4_part 0 = .ok (.lload_n 0, 1) := by decide +kernel
theorem dX4_part_1 : decode cX4_part 1 = .ok (.bipush 56, 2) := by decide +kernel
theorem dX4_part_3 : decode cX4_part 3 = .ok (.bipush 8, 2) := by decide +kernel
theorem dX4_part_5 : decode cX4_part 5 = .ok (.iload_n 2, 1) := by decide +kernel
theorem dX4_part_6 : decode cX4_part 6 = .ok (.imul, 1) := by decide +kernel
theorem dX4_part_7 : decode cX4_part 7 = .ok (.isub, 1) := by decide +kernel
theorem dX4_part_8 : decode cX4_part 8 = .ok (.lushr, 1) := by decide +kernel
theorem dX4_part_9 : decode cX4_part 9 = .ok (.l2i, 1) := by decide +kernel
theorem dX4_part_10 : decode cX4_part 10 = .ok (.sipush 255, 3) := by decide +kernel
theorem dX4_part_13 : decode cX4_part 13 = .ok (.iand, 1) := by decide +kernel
theorem dX4_part_14 : decode cX4_part 14 = .ok (.ireturn, 1) := by decide +kernel
theorem dX4_order_0 : decode cX4_order 0 = .ok (.aload_n 0, 1) := by decide +kernel
theorem dX4_order_1 : decode cX4_order 1 = .ok (.getfield 13, 3) := by decide +kernel
theorem dX4_order_4 : decode cX4_order 4 = .ok (.iload_n 1, 1) := by decide +kernel
theorem dX4_order_5 : decode cX4_order 5 = .ok (.laload, 1) := by decide +kernel
theorem dX4_order_6 : decode cX4_order 6 = .ok (.lstore 5, 2) := by decide +kernel
theorem dX4_order_8 : decode cX4_order 8 = .ok (.lload 5, 2) := by decide +kernel
theorem dX4_order_10 : decode cX4_order 10 = .ok (.lload_n 2, 1) := by decide +kernel
theorem dX4_order_11 : decode cX4_order 11 = .ok (.lcmp, 1) := by decide +kernel
theorem dX4_order_12 : decode cX4_order 12 = .ok (.ifCond .ne 13, 3) := by decide +kernel
theorem dX4_order_15 : decode cX4_order 15 = .ok (.aload_n 0, 1) := by decide +kernel
theorem dX4_order_16 : decode cX4_order 16 = .ok (.getfield 17, 3) := by decide +kernel
theorem dX4_order_19 : decode cX4_order 19 = .ok (.iload_n 1, 1) := by decide +kernel
theorem dX4_order_20 : decode cX4_order 20 = .ok (.iaload, 1) := by decide +kernel
theorem dX4_order_21 : decode cX4_order 21 = .ok (.iload 4, 2) := by decide +kernel
theorem dX4_order_23 : decode cX4_order 23 = .ok (.isub, 1) := by decide +kernel
theorem dX4_order_24 : decode cX4_order 24 = .ok (.ireturn, 1) := by decide +kernel
theorem dX4_order_25 : decode cX4_order 25 = .ok (.lload 5, 2) := by decide +kernel
theorem dX4_order_27 : decode cX4_order 27 = .ok (.ldc2_w 34, 3) := by decide +kernel
theorem dX4_order_30 : decode cX4_order 30 = .ok (.lxor, 1) := by decide +kernel
theorem dX4_order_31 : decode cX4_order 31 = .ok (.lload_n 2, 1) := by decide +kernel
theorem dX4_order_32 : decode cX4_order 32 = .ok (.ldc2_w 34, 3) := by decide +kernel
theorem dX4_order_35 : decode cX4_order 35 = .ok (.lxor, 1) := by decide +kernel
theorem dX4_order_36 : decode cX4_order 36 = .ok (.lcmp, 1) := by decide +kernel
theorem dX4_order_37 : decode cX4_order 37 = .ok (.ifCond .ge 7, 3) := by decide +kernel
theorem dX4_order_40 : decode cX4_order 40 = .ok (.iconst (-1), 1) := by decide +kernel
theorem dX4_order_41 : decode cX4_order 41 = .ok (.goto 4, 3) := by decide +kernel
theorem dX4_order_44 : decode cX4_order 44 = .ok (.iconst 1, 1) := by decide +kernel
theorem dX4_order_45 : decode cX4_order 45 = .ok (.ireturn, 1) := by decide +kernel
theorem dX4_place_0 : decode cX4_place 0 = .ok (.bipush 120, 2) := by decide +kernel
theorem dX4_place_2 : decode cX4_place 2 = .ok (.iload_n 1, 1) := by decide +kernel
theorem dX4_place_3 : decode cX4_place 3 = .ok (.imul, 1) := by decide +kernel
theorem dX4_place_4 : decode cX4_place 4 = .ok (.istore 5, 2) := by decide +kernel
theorem dX4_place_6 : decode cX4_place 6 = .ok (.iload 5, 2) := by decide +kernel
theorem dX4_place_8 : decode cX4_place 8 = .ok (.bipush 120, 2) := by decide +kernel
theorem dX4_place_10 : decode cX4_place 10 = .ok (.iload_n 1, 1) := by decide +kernel
theorem dX4_place_11 : decode cX4_place 11 = .ok (.imul, 1) := by decide +kernel
theorem dX4_place_12 : decode cX4_place 12 = .ok (.aload_n 0, 1) := by decide +kernel
theorem dX4_place_13 : decode cX4_place 13 = .ok (.getfield 7, 3) := by decide +kernel
theorem dX4_place_16 : decode cX4_place 16 = .ok (.iload_n 1, 1) := by decide +kernel
theorem dX4_place_17 : decode cX4_place 17 = .ok (.iaload, 1) := by decide +kernel
theorem dX4_place_18 : decode cX4_place 18 = .ok (.iadd, 1) := by decide +kernel
theorem dX4_place_19 : decode cX4_place 19 = .ok (.if_icmp .ge 21, 3) := by decide +kernel
theorem dX4_place_22 : decode cX4_place 22 = .ok (.aload_n 0, 1) := by decide +kernel
theorem dX4_place_23 : decode cX4_place 23 = .ok (.iload 5, 2) := by decide +kernel
theorem dX4_place_25 : decode cX4_place 25 = .ok (.lload_n 2, 1) := by decide +kernel
theorem dX4_place_26 : decode cX4_place 26 = .ok (.iload 4, 2) := by decide +kernel
theorem dX4_place_28 : decode cX4_place 28 = .ok (.invokevirtual 36, 3) := by decide +kernel
theorem dX4_place_31 : decode cX4_place 31 = .ok (.ifCond .ge 9, 3) := by decide +kernel
theorem dX4_place_34 : decode cX4_place 34 = .ok (.iinc 5 1, 3) := by decide +kernel
theorem dX4_place_37 : decode cX4_place 37 = .ok (.goto (-31), 3) := by decide +kernel
theorem dX4_place_40 : decode cX4_place 40 = .ok (.iload 5, 2) := by decide +kernel
theorem dX4_place_42 : decode cX4_place 42 = .ok (.ireturn, 1) := by decide +kernel
theorem dX4_has_0 : decode cX4_has 0 = .ok (.iload_n 2, 1) := by decide +kernel
theorem dX4_has_1 : decode cX4_has 1 = .ok (.bipush 120, 2) := by decide +kernel
theorem dX4_has_3 : decode cX4_has 3 = .ok (.iload_n 1, 1) := by decide +kernel
theorem dX4_has_4 : decode cX4_has 4 = .ok (.imul, 1) := by decide +kernel
theorem dX4_has_5 : decode cX4_has 5 = .ok (.aload_n 0, 1) := by decide +kernel
theorem dX4_has_6 : decode cX4_has 6 = .ok (.getfield 7, 3) := by decide +kernel
theorem dX4_has_9 : decode cX4_has 9 = .ok (.iload_n 1, 1) := by decide +kernel
theorem dX4_has_10 : decode cX4_has 10 = .ok (.iaload, 1) := by decide +kernel
theorem dX4_has_11 : decode cX4_has 11 = .ok (.iadd, 1) := by decide +kernel
theorem dX4_has_12 : decode cX4_has 12 = .ok (.if_icmp .ge 18, 3) := by decide +kernel
theorem dX4_has_15 : decode cX4_has 15 = .ok (.aload_n 0, 1) := by decide +kernel
theorem dX4_has_16 : decode cX4_has 16 = .ok (.iload_n 2, 1) := by decide +kernel
theorem dX4_has_17 : decode cX4_has 17 = .ok (.lload_n 3, 1) := by decide +kernel
theorem dX4_has_18 : decode cX4_has 18 = .ok (.iload 5, 2) := by decide +kernel
theorem dX4_has_20 : decode cX4_has 20 = .ok (.invokevirtual 36, 3) := by decide +kernel
theorem dX4_has_23 : decode cX4_has 23 = .ok (.ifCond .ne 7, 3) := by decide +kernel
theorem dX4_has_26 : decode cX4_has 26 = .ok (.iconst 1, 1) := by decide +kernel
theorem dX4_has_27 : decode cX4_has 27 = .ok (.goto 4, 3) := by decide +kernel
theorem dX4_has_30 : decode cX4_has 30 = .ok (.iconst 0, 1) := by decide +kernel
theorem dX4_has_31 : decode cX4_has 31 = .ok (.ireturn, 1) := by decide +kernel
theorem dX4_begins_0 : decode cX4_begins 0 = .ok (.aload_n 0, 1) := by decide +kernel
theorem dX4_begins_1 : decode cX4_begins 1 = .ok (.getfield 17, 3) := by decide +kernel
theorem dX4_begins_4 : decode cX4_begins 4 = .ok (.iload_n 1, 1) := by decide +kernel
theorem dX4_begins_5 : decode cX4_begins 5 = .ok (.iaload, 1) := by decide +kernel
theorem dX4_begins_6 : decode cX4_begins 6 = .ok (.iload 4, 2) := by decide +kernel
theorem dX4_begins_8 : decode cX4_begins 8 = .ok (.if_icmp .lt 23, 3) := by decide +kernel
theorem dX4_begins_11 : decode cX4_begins 11 = .ok (.aload_n 0, 1) := by decide +kernel
theorem dX4_begins_12 : decode cX4_begins 12 = .ok (.getfield 13, 3) := by decide +kernel
theorem dX4_begins_15 : decode cX4_begins 15 = .ok (.iload_n 1, 1) := by decide +kernel
theorem dX4_begins_16 : decode cX4_begins 16 = .ok (.laload, 1) := by decide +kernel
theorem dX4_begins_17 : decode cX4_begins 17 = .ok (.iload 4, 2) := by decide +kernel
theorem dX4_begins_19 : decode cX4_begins 19 = .ok (.invokestatic 40, 3) := by decide +kernel
theorem dX4_begins_22 : decode cX4_begins 22 = .ok (.lload_n 2, 1) := by decide +kernel
theorem dX4_begins_23 : decode cX4_begins 23 = .ok (.lcmp, 1) := by decide +kernel
theorem dX4_begins_24 : decode cX4_begins 24 = .ok (.ifCond .ne 7, 3) := by decide +kernel
theorem dX4_begins_27 : decode cX4_begins 27 = .ok (.iconst 1, 1) := by decide +kernel
theorem dX4_begins_28 : decode cX4_begins 28 = .ok (.goto 4, 3) := by decide +kernel
theorem dX4_begins_31 : decode cX4_begins 31 = .ok (.iconst 0, 1) := by decide +kernel
theorem dX4_begins_32 : decode cX4_begins 32 = .ok (.ireturn, 1) := by decide +kernel
theorem dX4_copy_0 : decode cX4_copy 0 = .ok (.aload_n 0, 1) := by decide +kernel
theorem dX4_copy_1 : decode cX4_copy 1 = .ok (.getfield 13, 3) := by decide +kernel
theorem dX4_copy_4 : decode cX4_copy 4 = .ok (.iload_n 2, 1) := by decide +kernel
theorem dX4_copy_5 : decode cX4_copy 5 = .ok (.aload_n 0, 1) := by decide +kernel
theorem dX4_copy_6 : decode cX4_copy 6 = .ok (.getfield 13, 3) := by decide +kernel
theorem dX4_copy_9 : decode cX4_copy 9 = .ok (.iload_n 1, 1) := by decide +kernel
theorem dX4_copy_10 : decode cX4_copy 10 = .ok (.laload, 1) := by decide +kernel
theorem dX4_copy_11 : decode cX4_copy 11 = .ok (.lastore, 1) := by decide +kernel
theorem dX4_copy_12 : decode cX4_copy 12 = .ok (.aload_n 0, 1) := by decide +kernel
theorem dX4_copy_13 : decode cX4_copy 13 = .ok (.getfield 17, 3) := by decide +kernel
theorem dX4_copy_16 : decode cX4_copy 16 = .ok (.iload_n 2, 1) := by decide +kernel
theorem dX4_copy_17 : decode cX4_copy 17 = .ok (.aload_n 0, 1) := by decide +kernel
theorem dX4_copy_18 : decode cX4_copy 18 = .ok (.getfield 17, 3) := by decide +kernel
theorem dX4_copy_21 : decode cX4_copy 21 = .ok (.iload_n 1, 1) := by decide +kernel
theorem dX4_copy_22 : decode cX4_copy 22 = .ok (.iaload, 1) := by decide +kernel
theorem dX4_copy_23 : decode cX4_copy 23 = .ok (.iastore, 1) := by decide +kernel
theorem dX4_copy_24 : decode cX4_copy 24 = .ok (.aload_n 0, 1) := by decide +kernel
theorem dX4_copy_25 : decode cX4_copy 25 = .ok (.getfield 20, 3) := by decide +kernel
theorem dX4_copy_28 : decode cX4_copy 28 = .ok (.iload_n 2, 1) := by decide +kernel
theorem dX4_copy_29 : decode cX4_copy 29 = .ok (.aload_n 0, 1) := by decide +kernel
theorem dX4_copy_30 : decode cX4_copy 30 = .ok (.getfield 20, 3) := by decide +kernel
theorem dX4_copy_33 : decode cX4_copy 33 = .ok (.iload_n 1, 1) := by decide +kernel
theorem dX4_copy_34 : decode cX4_copy 34 = .ok (.iaload, 1) := by decide +kernel
theorem dX4_copy_35 : decode cX4_copy 35 = .ok (.iastore, 1) := by decide +kernel
theorem dX4_copy_36 : decode cX4_copy 36 = .ok (.return_, 1) := by decide +kernel
theorem dX4_put_0 : decode cX4_put 0 = .ok (.iload_n 3, 1) := by decide +kernel
theorem dX4_put_1 : decode cX4_put 1 = .ok (.ifCond .lt 13, 3) := by decide +kernel
theorem dX4_put_4 : decode cX4_put 4 = .ok (.iload_n 3, 1) := by decide +kernel
theorem dX4_put_5 : decode cX4_put 5 = .ok (.bipush 8, 2) := by decide +kernel
theorem dX4_put_7 : decode cX4_put 7 = .ok (.if_icmp .gt 7, 3) := by decide +kernel
theorem dX4_put_10 : decode cX4_put 10 = .ok (.iconst 1, 1) := by decide +kernel
theorem dX4_put_11 : decode cX4_put 11 = .ok (.goto 4, 3) := by decide +kernel
theorem dX4_put_14 : decode cX4_put 14 = .ok (.iconst 0, 1) := by decide +kernel
theorem dX4_put_15 : decode cX4_put 15 = .ok (.istore 5, 2) := by decide +kernel
theorem dX4_put_17 : decode cX4_put 17 = .ok (.iload 5, 2) := by decide +kernel
theorem dX4_put_19 : decode cX4_put 19 = .ok (.ifCond .eq 11, 3) := by decide +kernel
theorem dX4_put_22 : decode cX4_put 22 = .ok (.lload_n 1, 1) := by decide +kernel
theorem dX4_put_23 : decode cX4_put 23 = .ok (.iload_n 3, 1) := by decide +kernel
theorem dX4_put_24 : decode cX4_put 24 = .ok (.invokestatic 40, 3) := by decide +kernel
theorem dX4_put_27 : decode cX4_put 27 = .ok (.goto 4, 3) := by decide +kernel
theorem dX4_put_30 : decode cX4_put 30 = .ok (.lconst 0, 1) := by decide +kernel
theorem dX4_put_31 : decode cX4_put 31 = .ok (.lstore 6, 2) := by decide +kernel
theorem dX4_put_33 : decode cX4_put 33 = .ok (.iload 5, 2) := by decide +kernel
theorem dX4_put_35 : decode cX4_put 35 = .ok (.ifCond .eq 14, 3) := by decide +kernel
theorem dX4_put_38 : decode cX4_put 38 = .ok (.aload_n 0, 1) := by decide +kernel
theorem dX4_put_39 : decode cX4_put 39 = .ok (.iconst 0, 1) := by decide +kernel
theorem dX4_put_40 : decode cX4_put 40 = .ok (.lload 6, 2) := by decide +kernel
theorem dX4_put_42 : decode cX4_put 42 = .ok (.iload_n 3, 1) := by decide +kernel
theorem dX4_put_43 : decode cX4_put 43 = .ok (.invokevirtual 44, 3) := by decide +kernel
theorem dX4_put_46 : decode cX4_put 46 = .ok (.goto 4, 3) := by decide +kernel
theorem dX4_put_49 : decode cX4_put 49 = .ok (.iconst 0, 1) := by decide +kernel
theorem dX4_put_50 : decode cX4_put 50 = .ok (.istore 8, 2) := by decide +kernel
theorem dX4_put_52 : decode cX4_put 52 = .ok (.iload 5, 2) := by decide +kernel
theorem dX4_put_54 : decode cX4_put 54 = .ok (.ifCond .eq 20, 3) := by decide +kernel
theorem dX4_put_57 : decode cX4_put 57 = .ok (.aload_n 0, 1) := by decide +kernel
theorem dX4_put_58 : decode cX4_put 58 = .ok (.iconst 0, 1) := by decide +kernel
theorem dX4_put_59 : decode cX4_put 59 = .ok (.iload 8, 2) := by decide +kernel
theorem dX4_put_61 : decode cX4_put 61 = .ok (.lload 6, 2) := by decide +kernel
theorem dX4_put_63 : decode cX4_put 63 = .ok (.iload_n 3, 1) := by decide +kernel
theorem dX4_put_64 : decode cX4_put 64 = .ok (.invokevirtual 47, 3) := by decide +kernel
theorem dX4_put_67 : decode cX4_put 67 = .ok (.ifCond .eq 7, 3) := by decide +kernel
theorem dX4_put_70 : decode cX4_put 70 = .ok (.iconst 1, 1) := by decide +kernel
theorem dX4_put_71 : decode cX4_put 71 = .ok (.goto 4, 3) := by decide +kernel
theorem dX4_put_74 : decode cX4_put 74 = .ok (.iconst 0, 1) := by decide +kernel
theorem dX4_put_75 : decode cX4_put 75 = .ok (.istore 9, 2) := by decide +kernel
theorem dX4_put_77 : decode cX4_put 77 = .ok (.aload_n 0, 1) := by decide +kernel
theorem dX4_put_78 : decode cX4_put 78 = .ok (.iload 5, 2) := by decide +kernel
theorem dX4_put_80 : decode cX4_put 80 = .ok (.ifCond .ne 7, 3) := by decide +kernel
theorem dX4_put_83 : decode cX4_put 83 = .ok (.iconst 1, 1) := by decide +kernel
theorem dX4_put_84 : decode cX4_put 84 = .ok (.goto 24, 3) := by decide +kernel
theorem dX4_put_87 : decode cX4_put 87 = .ok (.iload 9, 2) := by decide +kernel
theorem dX4_put_89 : decode cX4_put 89 = .ok (.ifCond .ne 18, 3) := by decide +kernel
theorem dX4_put_92 : decode cX4_put 92 = .ok (.aload_n 0, 1) := by decide +kernel
theorem dX4_put_93 : decode cX4_put 93 = .ok (.getfield 7, 3) := by decide +kernel
theorem dX4_put_96 : decode cX4_put 96 = .ok (.iconst 0, 1) := by decide +kernel
theorem dX4_put_97 : decode cX4_put 97 = .ok (.iaload, 1) := by decide +kernel
theorem dX4_put_98 : decode cX4_put 98 = .ok (.bipush 120, 2) := by decide +kernel
theorem dX4_put_100 : decode cX4_put 100 = .ok (.if_icmp .ne 7, 3) := by decide +kernel
theorem dX4_put_103 : decode cX4_put 103 = .ok (.iconst 2, 1) := by decide +kernel
theorem dX4_put_104 : decode cX4_put 104 = .ok (.goto 4, 3) := by decide +kernel
theorem dX4_put_107 : decode cX4_put 107 = .ok (.iconst 0, 1) := by decide +kernel
theorem dX4_put_108 : decode cX4_put 108 = .ok (.putfield 30, 3) := by decide +kernel
theorem dX4_put_111 : decode cX4_put 111 = .ok (.aload_n 0, 1) := by decide +kernel
theorem dX4_put_112 : decode cX4_put 112 = .ok (.getfield 30, 3) := by decide +kernel
theorem dX4_put_115 : decode cX4_put 115 = .ok (.ifCond .le 5, 3) := by decide +kernel
theorem dX4_put_118 : decode cX4_put 118 = .ok (.iconst 0, 1) := by decide +kernel
theorem dX4_put_119 : decode cX4_put 119 = .ok (.ireturn, 1) := by decide +kernel
theorem dX4_put_120 : decode cX4_put 120 = .ok (.iload 9, 2) := by decide +kernel
theorem dX4_put_122 : decode cX4_put 122 = .ok (.ifCond .ne 61, 3) := by decide +kernel
theorem dX4_put_125 : decode cX4_put 125 = .ok (.aload_n 0, 1) := by decide +kernel
theorem dX4_put_126 : decode cX4_put 126 = .ok (.getfield 7, 3) := by decide +kernel
theorem dX4_put_129 : decode cX4_put 129 = .ok (.iconst 0, 1) := by decide +kernel
theorem dX4_put_130 : decode cX4_put 130 = .ok (.iaload, 1) := by decide +kernel
theorem dX4_put_131 : decode cX4_put 131 = .ok (.istore 10, 2) := by decide +kernel
theorem dX4_put_133 : decode cX4_put 133 = .ok (.iload 10, 2) := by decide +kernel
theorem dX4_put_135 : decode cX4_put 135 = .ok (.iload 8, 2) := by decide +kernel
theorem dX4_put_137 : decode cX4_put 137 = .ok (.if_icmp .le 19, 3) := by decide +kernel
theorem dX4_put_140 : decode cX4_put 140 = .ok (.aload_n 0, 1) := by decide +kernel
theorem dX4_put_141 : decode cX4_put 141 = .ok (.iload 10, 2) := by decide +kernel
theorem dX4_put_143 : decode cX4_put 143 = .ok (.iconst 1, 1) := by decide +kernel
theorem dX4_put_144 : decode cX4_put 144 = .ok (.isub, 1) := by decide +kernel
theorem dX4_put_145 : decode cX4_put 145 = .ok (.iload 10, 2) := by decide +kernel
theorem dX4_put_147 : decode cX4_put 147 = .ok (.invokevirtual 51, 3) := by decide +kernel
theorem dX4_put_150 : decode cX4_put 150 = .ok (.iinc 10 (-1), 3) := by decide +kernel
theorem dX4_put_153 : decode cX4_put 153 = .ok (.goto (-20), 3) := by decide +kernel
theorem dX4_put_156 : decode cX4_put 156 = .ok (.aload_n 0, 1) := by decide +kernel
theorem dX4_put_157 : decode cX4_put 157 = .ok (.getfield 7, 3) := by decide +kernel
theorem dX4_put_160 : decode cX4_put 160 = .ok (.iconst 0, 1) := by decide +kernel
theorem dX4_put_161 : decode cX4_put 161 = .ok (.dup2, 1) := by decide +kernel
theorem dX4_put_162 : decode cX4_put 162 = .ok (.iaload, 1) := by decide +kernel
theorem dX4_put_163 : decode cX4_put 163 = .ok (.iconst 1, 1) := by decide +kernel
theorem dX4_put_164 : decode cX4_put 164 = .ok (.iadd, 1) := by decide +kernel
theorem dX4_put_165 : decode cX4_put 165 = .ok (.iastore, 1) := by decide +kernel
theorem dX4_put_166 : decode cX4_put 166 = .ok (.aload_n 0, 1) := by decide +kernel
theorem dX4_put_167 : decode cX4_put 167 = .ok (.getfield 13, 3) := by decide +kernel
theorem dX4_put_170 : decode cX4_put 170 = .ok (.iload 8, 2) := by decide +kernel
theorem dX4_put_172 : decode cX4_put 172 = .ok (.lload 6, 2) := by decide +kernel
theorem dX4_put_174 : decode cX4_put 174 = .ok (.lastore, 1) := by decide +kernel
theorem dX4_put_175 : decode cX4_put 175 = .ok (.aload_n 0, 1) := by decide +kernel
theorem dX4_put_176 : decode cX4_put 176 = .ok (.getfield 17, 3) := by decide +kernel
theorem dX4_put_179 : decode cX4_put 179 = .ok (.iload 8, 2) := by decide +kernel
theorem dX4_put_181 : decode cX4_put 181 = .ok (.iload_n 3, 1) := by decide +kernel
theorem dX4_put_182 : decode cX4_put 182 = .ok (.iastore, 1) := by decide +kernel
theorem dX4_put_183 : decode cX4_put 183 = .ok (.aload_n 0, 1) := by decide +kernel
theorem dX4_put_184 : decode cX4_put 184 = .ok (.getfield 20, 3) := by decide +kernel
theorem dX4_put_187 : decode cX4_put 187 = .ok (.iload 8, 2) := by decide +kernel
theorem dX4_put_189 : decode cX4_put 189 = .ok (.iload 4, 2) := by decide +kernel
theorem dX4_put_191 : decode cX4_put 191 = .ok (.iastore, 1) := by decide +kernel
theorem dX4_put_192 : decode cX4_put 192 = .ok (.iload 9, 2) := by decide +kernel
theorem dX4_put_194 : decode cX4_put 194 = .ok (.ifCond .ne 7, 3) := by decide +kernel
theorem dX4_put_197 : decode cX4_put 197 = .ok (.iconst 1, 1) := by decide +kernel
theorem dX4_put_198 : decode cX4_put 198 = .ok (.goto 4, 3) := by decide +kernel
theorem dX4_put_201 : decode cX4_put 201 = .ok (.iconst 0, 1) := by decide +kernel
theorem dX4_put_202 : decode cX4_put 202 = .ok (.ireturn, 1) := by decide +kernel
theorem dX4_get_0 : decode cX4_get 0 = .ok (.iload_n 3, 1) := by decide +kernel
theorem dX4_get_1 : decode cX4_get 1 = .ok (.ifCond .lt 13, 3) := by decide +kernel
theorem dX4_get_4 : decode cX4_get 4 = .ok (.iload_n 3, 1) := by decide +kernel
theorem dX4_get_5 : decode cX4_get 5 = .ok (.bipush 8, 2) := by decide +kernel
theorem dX4_get_7 : decode cX4_get 7 = .ok (.if_icmp .gt 7, 3) := by decide +kernel
theorem dX4_get_10 : decode cX4_get 10 = .ok (.iconst 1, 1) := by decide +kernel
theorem dX4_get_11 : decode cX4_get 11 = .ok (.goto 4, 3) := by decide +kernel
theorem dX4_get_14 : decode cX4_get 14 = .ok (.iconst 0, 1) := by decide +kernel
theorem dX4_get_15 : decode cX4_get 15 = .ok (.istore 4, 2) := by decide +kernel
theorem dX4_get_17 : decode cX4_get 17 = .ok (.iload 4, 2) := by decide +kernel
theorem dX4_get_19 : decode cX4_get 19 = .ok (.ifCond .eq 11, 3) := by decide +kernel
theorem dX4_get_22 : decode cX4_get 22 = .ok (.lload_n 1, 1) := by decide +kernel
theorem dX4_get_23 : decode cX4_get 23 = .ok (.iload_n 3, 1) := by decide +kernel
theorem dX4_get_24 : decode cX4_get 24 = .ok (.invokestatic 40, 3) := by decide +kernel
theorem dX4_get_27 : decode cX4_get 27 = .ok (.goto 4, 3) := by decide +kernel
theorem dX4_get_30 : decode cX4_get 30 = .ok (.lconst 0, 1) := by decide +kernel
theorem dX4_get_31 : decode cX4_get 31 = .ok (.lstore 5, 2) := by decide +kernel
theorem dX4_get_33 : decode cX4_get 33 = .ok (.iload 4, 2) := by decide +kernel
theorem dX4_get_35 : decode cX4_get 35 = .ok (.ifCond .eq 14, 3) := by decide +kernel
theorem dX4_get_38 : decode cX4_get 38 = .ok (.aload_n 0, 1) := by decide +kernel
theorem dX4_get_39 : decode cX4_get 39 = .ok (.iconst 0, 1) := by decide +kernel
theorem dX4_get_40 : decode cX4_get 40 = .ok (.lload 5, 2) := by decide +kernel
theorem dX4_get_42 : decode cX4_get 42 = .ok (.iload_n 3, 1) := by decide +kernel
theorem dX4_get_43 : decode cX4_get 43 = .ok (.invokevirtual 44, 3) := by decide +kernel
theorem dX4_get_46 : decode cX4_get 46 = .ok (.goto 4, 3) := by decide +kernel
theorem dX4_get_49 : decode cX4_get 49 = .ok (.iconst 0, 1) := by decide +kernel
theorem dX4_get_50 : decode cX4_get 50 = .ok (.istore 7, 2) := by decide +kernel
theorem dX4_get_52 : decode cX4_get 52 = .ok (.aload_n 0, 1) := by decide +kernel
theorem dX4_get_53 : decode cX4_get 53 = .ok (.iload 4, 2) := by decide +kernel
theorem dX4_get_55 : decode cX4_get 55 = .ok (.ifCond .ne 7, 3) := by decide +kernel
theorem dX4_get_58 : decode cX4_get 58 = .ok (.iconst 1, 1) := by decide +kernel
theorem dX4_get_59 : decode cX4_get 59 = .ok (.goto 21, 3) := by decide +kernel
theorem dX4_get_62 : decode cX4_get 62 = .ok (.aload_n 0, 1) := by decide +kernel
theorem dX4_get_63 : decode cX4_get 63 = .ok (.iconst 0, 1) := by decide +kernel
theorem dX4_get_64 : decode cX4_get 64 = .ok (.iload 7, 2) := by decide +kernel
theorem dX4_get_66 : decode cX4_get 66 = .ok (.lload 5, 2) := by decide +kernel
theorem dX4_get_68 : decode cX4_get 68 = .ok (.iload_n 3, 1) := by decide +kernel
theorem dX4_get_69 : decode cX4_get 69 = .ok (.invokevirtual 47, 3) := by decide +kernel
theorem dX4_get_72 : decode cX4_get 72 = .ok (.ifCond .eq 7, 3) := by decide +kernel
theorem dX4_get_75 : decode cX4_get 75 = .ok (.iconst 0, 1) := by decide +kernel
theorem dX4_get_76 : decode cX4_get 76 = .ok (.goto 4, 3) := by decide +kernel
theorem dX4_get_79 : decode cX4_get 79 = .ok (.iconst 2, 1) := by decide +kernel
theorem dX4_get_80 : decode cX4_get 80 = .ok (.putfield 30, 3) := by decide +kernel
theorem dX4_get_83 : decode cX4_get 83 = .ok (.aload_n 0, 1) := by decide +kernel
theorem dX4_get_84 : decode cX4_get 84 = .ok (.getfield 30, 3) := by decide +kernel
theorem dX4_get_87 : decode cX4_get 87 = .ok (.ifCond .le 7, 3) := by decide +kernel
theorem dX4_get_90 : decode cX4_get 90 = .ok (.iconst 0, 1) := by decide +kernel
theorem dX4_get_91 : decode cX4_get 91 = .ok (.goto 10, 3) := by decide +kernel
theorem dX4_get_94 : decode cX4_get 94 = .ok (.aload_n 0, 1) := by decide +kernel
theorem dX4_get_95 : decode cX4_get 95 = .ok (.getfield 20, 3) := by decide +kernel
theorem dX4_get_98 : decode cX4_get 98 = .ok (.iload 7, 2) := by decide +kernel
theorem dX4_get_100 : decode cX4_get 100 = .ok (.iaload, 1) := by decide +kernel
theorem dX4_get_101 : decode cX4_get 101 = .ok (.ireturn, 1) := by decide +kernel
theorem dX4_remove_0 : decode cX4_remove 0 = .ok (.aload_n 0, 1) := by decide +kernel
theorem dX4_remove_1 : decode cX4_remove 1 = .ok (.iconst 0, 1) := by decide +kernel
theorem dX4_remove_2 : decode cX4_remove 2 = .ok (.putfield 30, 3) := by decide +kernel
theorem dX4_remove_5 : decode cX4_remove 5 = .ok (.iload_n 3, 1) := by decide +kernel
theorem dX4_remove_6 : decode cX4_remove 6 = .ok (.ifCond .lt 9, 3) := by decide +kernel
theorem dX4_remove_9 : decode cX4_remove 9 = .ok (.iload_n 3, 1) := by decide +kernel
theorem dX4_remove_10 : decode cX4_remove 10 = .ok (.bipush 8, 2) := by decide +kernel
theorem dX4_remove_12 : decode cX4_remove 12 = .ok (.if_icmp .le 5, 3) := by decide +kernel
theorem dX4_remove_15 : decode cX4_remove 15 = .ok (.iconst 0, 1) := by decide +kernel
theorem dX4_remove_16 : decode cX4_remove 16 = .ok (.ireturn, 1) := by decide +kernel
theorem dX4_remove_17 : decode cX4_remove 17 = .ok (.aload_n 0, 1) := by decide +kernel
theorem dX4_remove_18 : decode cX4_remove 18 = .ok (.iconst 0, 1) := by decide +kernel
theorem dX4_remove_19 : decode cX4_remove 19 = .ok (.lload_n 1, 1) := by decide +kernel
theorem dX4_remove_20 : decode cX4_remove 20 = .ok (.iload_n 3, 1) := by decide +kernel
theorem dX4_remove_21 : decode cX4_remove 21 = .ok (.invokestatic 40, 3) := by decide +kernel
theorem dX4_remove_24 : decode cX4_remove 24 = .ok (.iload_n 3, 1) := by decide +kernel
theorem dX4_remove_25 : decode cX4_remove 25 = .ok (.invokevirtual 44, 3) := by decide +kernel
theorem dX4_remove_28 : decode cX4_remove 28 = .ok (.istore 4, 2) := by decide +kernel
theorem dX4_remove_30 : decode cX4_remove 30 = .ok (.aload_n 0, 1) := by decide +kernel
theorem dX4_remove_31 : decode cX4_remove 31 = .ok (.iconst 0, 1) := by decide +kernel
theorem dX4_remove_32 : decode cX4_remove 32 = .ok (.iload 4, 2) := by decide +kernel
theorem dX4_remove_34 : decode cX4_remove 34 = .ok (.lload_n 1, 1) := by decide +kernel
theorem dX4_remove_35 : decode cX4_remove 35 = .ok (.iload_n 3, 1) := by decide +kernel
theorem dX4_remove_36 : decode cX4_remove 36 = .ok (.invokestatic 40, 3) := by decide +kernel
theorem dX4_remove_39 : decode cX4_remove 39 = .ok (.iload_n 3, 1) := by decide +kernel
theorem dX4_remove_40 : decode cX4_remove 40 = .ok (.invokevirtual 47, 3) := by decide +kernel
theorem dX4_remove_43 : decode cX4_remove 43 = .ok (.ifCond .ne 5, 3) := by decide +kernel
theorem dX4_remove_46 : decode cX4_remove 46 = .ok (.iconst 0, 1) := by decide +kernel
theorem dX4_remove_47 : decode cX4_remove 47 = .ok (.ireturn, 1) := by decide +kernel
theorem dX4_remove_48 : decode cX4_remove 48 = .ok (.aload_n 0, 1) := by decide +kernel
theorem dX4_remove_49 : decode cX4_remove 49 = .ok (.getfield 7, 3) := by decide +kernel
theorem dX4_remove_52 : decode cX4_remove 52 = .ok (.iconst 0, 1) := by decide +kernel
theorem dX4_remove_53 : decode cX4_remove 53 = .ok (.dup2, 1) := by decide +kernel
theorem dX4_remove_54 : decode cX4_remove 54 = .ok (.iaload, 1) := by decide +kernel
theorem dX4_remove_55 : decode cX4_remove 55 = .ok (.iconst 1, 1) := by decide +kernel
theorem dX4_remove_56 : decode cX4_remove 56 = .ok (.isub, 1) := by decide +kernel
theorem dX4_remove_57 : decode cX4_remove 57 = .ok (.iastore, 1) := by decide +kernel
theorem dX4_remove_58 : decode cX4_remove 58 = .ok (.iload 4, 2) := by decide +kernel
theorem dX4_remove_60 : decode cX4_remove 60 = .ok (.istore 5, 2) := by decide +kernel
theorem dX4_remove_62 : decode cX4_remove 62 = .ok (.iload 5, 2) := by decide +kernel
theorem dX4_remove_64 : decode cX4_remove 64 = .ok (.aload_n 0, 1) := by decide +kernel
theorem dX4_remove_65 : decode cX4_remove 65 = .ok (.getfield 7, 3) := by decide +kernel
theorem dX4_remove_68 : decode cX4_remove 68 = .ok (.iconst 0, 1) := by decide +kernel
theorem dX4_remove_69 : decode cX4_remove 69 = .ok (.iaload, 1) := by decide +kernel
theorem dX4_remove_70 : decode cX4_remove 70 = .ok (.if_icmp .ge 19, 3) := by decide +kernel
theorem dX4_remove_73 : decode cX4_remove 73 = .ok (.aload_n 0, 1) := by decide +kernel
theorem dX4_remove_74 : decode cX4_remove 74 = .ok (.iload 5, 2) := by decide +kernel
theorem dX4_remove_76 : decode cX4_remove 76 = .ok (.iconst 1, 1) := by decide +kernel
theorem dX4_remove_77 : decode cX4_remove 77 = .ok (.iadd, 1) := by decide +kernel
theorem dX4_remove_78 : decode cX4_remove 78 = .ok (.iload 5, 2) := by decide +kernel
theorem dX4_remove_80 : decode cX4_remove 80 = .ok (.invokevirtual 51, 3) := by decide +kernel
theorem dX4_remove_83 : decode cX4_remove 83 = .ok (.iinc 5 1, 3) := by decide +kernel
theorem dX4_remove_86 : decode cX4_remove 86 = .ok (.goto (-24), 3) := by decide +kernel
theorem dX4_remove_89 : decode cX4_remove 89 = .ok (.iconst 1, 1) := by decide +kernel
theorem dX4_remove_90 : decode cX4_remove 90 = .ok (.ireturn, 1) := by decide +kernel
theorem dX4_size_0 : decode cX4_size 0 = .ok (.aload_n 0, 1) := by decide +kernel
theorem dX4_size_1 : decode cX4_size 1 = .ok (.iconst 0, 1) := by decide +kernel
theorem dX4_size_2 : decode cX4_size 2 = .ok (.putfield 30, 3) := by decide +kernel
theorem dX4_size_5 : decode cX4_size 5 = .ok (.aload_n 0, 1) := by decide +kernel
theorem dX4_size_6 : decode cX4_size 6 = .ok (.getfield 7, 3) := by decide +kernel
theorem dX4_size_9 : decode cX4_size 9 = .ok (.iconst 0, 1) := by decide +kernel
theorem dX4_size_10 : decode cX4_size 10 = .ok (.iaload, 1) := by decide +kernel
theorem dX4_size_11 : decode cX4_size 11 = .ok (.ireturn, 1) := by decide +kernel
theorem dX4_within_0 : decode cX4_within 0 = .ok (.aload_n 0, 1) := by decide +kernel
theorem dX4_within_1 : decode cX4_within 1 = .ok (.iconst 0, 1) := by decide +kernel
theorem dX4_within_2 : decode cX4_within 2 = .ok (.putfield 30, 3) := by decide +kernel
theorem dX4_within_5 : decode cX4_within 5 = .ok (.iconst 0, 1) := by decide +kernel
theorem dX4_within_6 : decode cX4_within 6 = .ok (.istore 4, 2) := by decide +kernel
theorem dX4_within_8 : decode cX4_within 8 = .ok (.iconst 0, 1) := by decide +kernel
theorem dX4_within_9 : decode cX4_within 9 = .ok (.istore 5, 2) := by decide +kernel
theorem dX4_within_11 : decode cX4_within 11 = .ok (.iload 5, 2) := by decide +kernel
theorem dX4_within_13 : decode cX4_within 13 = .ok (.aload_n 0, 1) := by decide +kernel
theorem dX4_within_14 : decode cX4_within 14 = .ok (.getfield 7, 3) := by decide +kernel
theorem dX4_within_17 : decode cX4_within 17 = .ok (.iconst 0, 1) := by decide +kernel
theorem dX4_within_18 : decode cX4_within 18 = .ok (.iaload, 1) := by decide +kernel
theorem dX4_within_19 : decode cX4_within 19 = .ok (.if_icmp .ge 45, 3) := by decide +kernel
theorem dX4_within_22 : decode cX4_within 22 = .ok (.iload_n 3, 1) := by decide +kernel
theorem dX4_within_23 : decode cX4_within 23 = .ok (.ifCond .lt 41, 3) := by decide +kernel
theorem dX4_within_26 : decode cX4_within 26 = .ok (.iload_n 3, 1) := by decide +kernel
theorem dX4_within_27 : decode cX4_within 27 = .ok (.bipush 8, 2) := by decide +kernel
theorem dX4_within_29 : decode cX4_within 29 = .ok (.if_icmp .gt 35, 3) := by decide +kernel
theorem dX4_within_32 : decode cX4_within 32 = .ok (.aload_n 0, 1) := by decide +kernel
theorem dX4_within_33 : decode cX4_within 33 = .ok (.iload 5, 2) := by decide +kernel
theorem dX4_within_35 : decode cX4_within 35 = .ok (.lload_n 1, 1) := by decide +kernel
theorem dX4_within_36 : decode cX4_within 36 = .ok (.iload_n 3, 1) := by decide +kernel
theorem dX4_within_37 : decode cX4_within 37 = .ok (.invokestatic 40, 3) := by decide +kernel
theorem dX4_within_40 : decode cX4_within 40 = .ok (.iload_n 3, 1) := by decide +kernel
theorem dX4_within_41 : decode cX4_within 41 = .ok (.invokevirtual 55, 3) := by decide +kernel
theorem dX4_within_44 : decode cX4_within 44 = .ok (.ifCond .eq 10, 3) := by decide +kernel
theorem dX4_within_47 : decode cX4_within 47 = .ok (.iload 4, 2) := by decide +kernel
theorem dX4_within_49 : decode cX4_within 49 = .ok (.iconst 1, 1) := by decide +kernel
theorem dX4_within_50 : decode cX4_within 50 = .ok (.iadd, 1) := by decide +kernel
theorem dX4_within_51 : decode cX4_within 51 = .ok (.goto 5, 3) := by decide +kernel
theorem dX4_within_54 : decode cX4_within 54 = .ok (.iload 4, 2) := by decide +kernel
theorem dX4_within_56 : decode cX4_within 56 = .ok (.istore 4, 2) := by decide +kernel
theorem dX4_within_58 : decode cX4_within 58 = .ok (.iinc 5 1, 3) := by decide +kernel
theorem dX4_within_61 : decode cX4_within 61 = .ok (.goto (-50), 3) := by decide +kernel
theorem dX4_within_64 : decode cX4_within 64 = .ok (.iload 4, 2) := by decide +kernel
theorem dX4_within_66 : decode cX4_within 66 = .ok (.ireturn, 1) := by decide +kernel
theorem dX4_rank_0 : decode cX4_rank 0 = .ok (.aload_n 0, 1) := by decide +kernel
theorem dX4_rank_1 : decode cX4_rank 1 = .ok (.iconst 0, 1) := by decide +kernel
theorem dX4_rank_2 : decode cX4_rank 2 = .ok (.putfield 30, 3) := by decide +kernel
theorem dX4_rank_5 : decode cX4_rank 5 = .ok (.iload_n 3, 1) := by decide +kernel
theorem dX4_rank_6 : decode cX4_rank 6 = .ok (.ifCond .lt 9, 3) := by decide +kernel
theorem dX4_rank_9 : decode cX4_rank 9 = .ok (.iload_n 3, 1) := by decide +kernel
theorem dX4_rank_10 : decode cX4_rank 10 = .ok (.bipush 8, 2) := by decide +kernel
theorem dX4_rank_12 : decode cX4_rank 12 = .ok (.if_icmp .le 7, 3) := by decide +kernel
theorem dX4_rank_15 : decode cX4_rank 15 = .ok (.iconst (-1), 1) := by decide +kernel
theorem dX4_rank_16 : decode cX4_rank 16 = .ok (.goto 14, 3) := by decide +kernel
theorem dX4_rank_19 : decode cX4_rank 19 = .ok (.aload_n 0, 1) := by decide +kernel
theorem dX4_rank_20 : decode cX4_rank 20 = .ok (.iconst 0, 1) := by decide +kernel
theorem dX4_rank_21 : decode cX4_rank 21 = .ok (.lload_n 1, 1) := by decide +kernel
theorem dX4_rank_22 : decode cX4_rank 22 = .ok (.iload_n 3, 1) := by decide +kernel
theorem dX4_rank_23 : decode cX4_rank 23 = .ok (.invokestatic 40, 3) := by decide +kernel
theorem dX4_rank_26 : decode cX4_rank 26 = .ok (.iload_n 3, 1) := by decide +kernel
theorem dX4_rank_27 : decode cX4_rank 27 = .ok (.invokevirtual 44, 3) := by decide +kernel
theorem dX4_rank_30 : decode cX4_rank 30 = .ok (.ireturn, 1) := by decide +kernel
theorem dX4_branches_0 : decode cX4_branches 0 = .ok (.iconst 0, 1) := by decide +kernel
theorem dX4_branches_1 : decode cX4_branches 1 = .ok (.istore 4, 2) := by decide +kernel
theorem dX4_branches_3 : decode cX4_branches 3 = .ok (.iconst 0, 1) := by decide +kernel
theorem dX4_branches_4 : decode cX4_branches 4 = .ok (.istore 5, 2) := by decide +kernel
theorem dX4_branches_6 : decode cX4_branches 6 = .ok (.iconst 0, 1) := by decide +kernel
theorem dX4_branches_7 : decode cX4_branches 7 = .ok (.istore 6, 2) := by decide +kernel
theorem dX4_branches_9 : decode cX4_branches 9 = .ok (.iconst (-1), 1) := by decide +kernel
theorem dX4_branches_10 : decode cX4_branches 10 = .ok (.istore 7, 2) := by decide +kernel
theorem dX4_branches_12 : decode cX4_branches 12 = .ok (.iconst 0, 1) := by decide +kernel
theorem dX4_branches_13 : decode cX4_branches 13 = .ok (.istore 8, 2) := by decide +kernel
theorem dX4_branches_15 : decode cX4_branches 15 = .ok (.iload 8, 2) := by decide +kernel
theorem dX4_branches_17 : decode cX4_branches 17 = .ok (.aload_n 0, 1) := by decide +kernel
theorem dX4_branches_18 : decode cX4_branches 18 = .ok (.getfield 7, 3) := by decide +kernel
theorem dX4_branches_21 : decode cX4_branches 21 = .ok (.iconst 0, 1) := by decide +kernel
theorem dX4_branches_22 : decode cX4_branches 22 = .ok (.iaload, 1) := by decide +kernel
theorem dX4_branches_23 : decode cX4_branches 23 = .ok (.if_icmp .ge 117, 3) := by decide +kernel
theorem dX4_branches_26 : decode cX4_branches 26 = .ok (.aload_n 0, 1) := by decide +kernel
theorem dX4_branches_27 : decode cX4_branches 27 = .ok (.iload 8, 2) := by decide +kernel
theorem dX4_branches_29 : decode cX4_branches 29 = .ok (.lload_n 1, 1) := by decide +kernel
theorem dX4_branches_30 : decode cX4_branches 30 = .ok (.iload_n 3, 1) := by decide +kernel
theorem dX4_branches_31 : decode cX4_branches 31 = .ok (.invokevirtual 55, 3) := by decide +kernel
theorem dX4_branches_34 : decode cX4_branches 34 = .ok (.ifCond .eq 100, 3) := by decide +kernel
theorem dX4_branches_37 : decode cX4_branches 37 = .ok (.iinc 4 1, 3) := by decide +kernel
theorem dX4_branches_40 : decode cX4_branches 40 = .ok (.aload_n 0, 1) := by decide +kernel
theorem dX4_branches_41 : decode cX4_branches 41 = .ok (.getfield 17, 3) := by decide +kernel
theorem dX4_branches_44 : decode cX4_branches 44 = .ok (.iload 8, 2) := by decide +kernel
theorem dX4_branches_46 : decode cX4_branches 46 = .ok (.iaload, 1) := by decide +kernel
theorem dX4_branches_47 : decode cX4_branches 47 = .ok (.iload_n 3, 1) := by decide +kernel
theorem dX4_branches_48 : decode cX4_branches 48 = .ok (.if_icmp .ne 7, 3) := by decide +kernel
theorem dX4_branches_51 : decode cX4_branches 51 = .ok (.iconst 1, 1) := by decide +kernel
theorem dX4_branches_52 : decode cX4_branches 52 = .ok (.goto 4, 3) := by decide +kernel
theorem dX4_branches_55 : decode cX4_branches 55 = .ok (.iconst 0, 1) := by decide +kernel
theorem dX4_branches_56 : decode cX4_branches 56 = .ok (.istore 9, 2) := by decide +kernel
theorem dX4_branches_58 : decode cX4_branches 58 = .ok (.iload 6, 2) := by decide +kernel
theorem dX4_branches_60 : decode cX4_branches 60 = .ok (.ifCond .ne 8, 3) := by decide +kernel
theorem dX4_branches_63 : decode cX4_branches 63 = .ok (.iload 9, 2) := by decide +kernel
theorem dX4_branches_65 : decode cX4_branches 65 = .ok (.ifCond .eq 7, 3) := by decide +kernel
theorem dX4_branches_68 : decode cX4_branches 68 = .ok (.iconst 1, 1) := by decide +kernel
theorem dX4_branches_69 : decode cX4_branches 69 = .ok (.goto 4, 3) := by decide +kernel
theorem dX4_branches_72 : decode cX4_branches 72 = .ok (.iconst 0, 1) := by decide +kernel
theorem dX4_branches_73 : decode cX4_branches 73 = .ok (.istore 6, 2) := by decide +kernel
theorem dX4_branches_75 : decode cX4_branches 75 = .ok (.iload 9, 2) := by decide +kernel
theorem dX4_branches_77 : decode cX4_branches 77 = .ok (.ifCond .eq 7, 3) := by decide +kernel
theorem dX4_branches_80 : decode cX4_branches 80 = .ok (.iconst (-1), 1) := by decide +kernel
theorem dX4_branches_81 : decode cX4_branches 81 = .ok (.goto 14, 3) := by decide +kernel
theorem dX4_branches_84 : decode cX4_branches 84 = .ok (.aload_n 0, 1) := by decide +kernel
theorem dX4_branches_85 : decode cX4_branches 85 = .ok (.getfield 13, 3) := by decide +kernel
theorem dX4_branches_88 : decode cX4_branches 88 = .ok (.iload 8, 2) := by decide +kernel
theorem dX4_branches_90 : decode cX4_branches 90 = .ok (.laload, 1) := by decide +kernel
theorem dX4_branches_91 : decode cX4_branches 91 = .ok (.iload_n 3, 1) := by decide +kernel
theorem dX4_branches_92 : decode cX4_branches 92 = .ok (.invokestatic 59, 3) := by decide +kernel
theorem dX4_branches_95 : decode cX4_branches 95 = .ok (.istore 10, 2) := by decide +kernel
theorem dX4_branches_97 : decode cX4_branches 97 = .ok (.iload 9, 2) := by decide +kernel
theorem dX4_branches_99 : decode cX4_branches 99 = .ok (.ifCond .ne 17, 3) := by decide +kernel
theorem dX4_branches_102 : decode cX4_branches 102 = .ok (.iload 10, 2) := by decide +kernel
theorem dX4_branches_104 : decode cX4_branches 104 = .ok (.iload 7, 2) := by decide +kernel
theorem dX4_branches_106 : decode cX4_branches 106 = .ok (.if_icmp .eq 10, 3) := by decide +kernel
theorem dX4_branches_109 : decode cX4_branches 109 = .ok (.iload 5, 2) := by decide +kernel
theorem dX4_branches_111 : decode cX4_branches 111 = .ok (.iconst 1, 1) := by decide +kernel
theorem dX4_branches_112 : decode cX4_branches 112 = .ok (.iadd, 1) := by decide +kernel
theorem dX4_branches_113 : decode cX4_branches 113 = .ok (.goto 5, 3) := by decide +kernel
theorem dX4_branches_116 : decode cX4_branches 116 = .ok (.iload 5, 2) := by decide +kernel
theorem dX4_branches_118 : decode cX4_branches 118 = .ok (.istore 5, 2) := by decide +kernel
theorem dX4_branches_120 : decode cX4_branches 120 = .ok (.iload 9, 2) := by decide +kernel
theorem dX4_branches_122 : decode cX4_branches 122 = .ok (.ifCond .eq 8, 3) := by decide +kernel
theorem dX4_branches_125 : decode cX4_branches 125 = .ok (.iload 7, 2) := by decide +kernel
theorem dX4_branches_127 : decode cX4_branches 127 = .ok (.goto 5, 3) := by decide +kernel
theorem dX4_branches_130 : decode cX4_branches 130 = .ok (.iload 10, 2) := by decide +kernel
theorem dX4_branches_132 : decode cX4_branches 132 = .ok (.istore 7, 2) := by decide +kernel
theorem dX4_branches_134 : decode cX4_branches 134 = .ok (.iinc 8 1, 3) := by decide +kernel
theorem dX4_branches_137 : decode cX4_branches 137 = .ok (.goto (-122), 3) := by decide +kernel
theorem dX4_branches_140 : decode cX4_branches 140 = .ok (.iload 5, 2) := by decide +kernel
theorem dX4_branches_142 : decode cX4_branches 142 = .ok (.iconst 1, 1) := by decide +kernel
theorem dX4_branches_143 : decode cX4_branches 143 = .ok (.if_icmp .gt 14, 3) := by decide +kernel
theorem dX4_branches_146 : decode cX4_branches 146 = .ok (.iload 6, 2) := by decide +kernel
theorem dX4_branches_148 : decode cX4_branches 148 = .ok (.ifCond .eq 14, 3) := by decide +kernel
theorem dX4_branches_151 : decode cX4_branches 151 = .ok (.iload 4, 2) := by decide +kernel
theorem dX4_branches_153 : decode cX4_branches 153 = .ok (.iconst 1, 1) := by decide +kernel
theorem dX4_branches_154 : decode cX4_branches 154 = .ok (.if_icmp .le 8, 3) := by decide +kernel
theorem dX4_branches_157 : decode cX4_branches 157 = .ok (.iload 5, 2) := by decide +kernel
theorem dX4_branches_159 : decode cX4_branches 159 = .ok (.goto 4, 3) := by decide +kernel
theorem dX4_branches_162 : decode cX4_branches 162 = .ok (.iconst 0, 1) := by decide +kernel
theorem dX4_branches_163 : decode cX4_branches 163 = .ok (.ireturn, 1) := by decide +kernel
theorem dX4_sizeOf_0 : decode cX4_sizeOf 0 = .ok (.iload_n 0, 1) := by decide +kernel
theorem dX4_sizeOf_1 : decode cX4_sizeOf 1 = .ok (.iconst 5, 1) := by decide +kernel
theorem dX4_sizeOf_2 : decode cX4_sizeOf 2 = .ok (.if_icmp .ge 7, 3) := by decide +kernel
theorem dX4_sizeOf_5 : decode cX4_sizeOf 5 = .ok (.iconst 0, 1) := by decide +kernel
theorem dX4_sizeOf_6 : decode cX4_sizeOf 6 = .ok (.goto 24, 3) := by decide +kernel
theorem dX4_sizeOf_9 : decode cX4_sizeOf 9 = .ok (.iload_n 0, 1) := by decide +kernel
theorem dX4_sizeOf_10 : decode cX4_sizeOf 10 = .ok (.bipush 17, 2) := by decide +kernel
theorem dX4_sizeOf_12 : decode cX4_sizeOf 12 = .ok (.if_icmp .ge 7, 3) := by decide +kernel
theorem dX4_sizeOf_15 : decode cX4_sizeOf 15 = .ok (.iconst 1, 1) := by decide +kernel
theorem dX4_sizeOf_16 : decode cX4_sizeOf 16 = .ok (.goto 14, 3) := by decide +kernel
theorem dX4_sizeOf_19 : decode cX4_sizeOf 19 = .ok (.iload_n 0, 1) := by decide +kernel
theorem dX4_sizeOf_20 : decode cX4_sizeOf 20 = .ok (.bipush 49, 2) := by decide +kernel
theorem dX4_sizeOf_22 : decode cX4_sizeOf 22 = .ok (.if_icmp .ge 7, 3) := by decide +kernel
theorem dX4_sizeOf_25 : decode cX4_sizeOf 25 = .ok (.iconst 2, 1) := by decide +kernel
theorem dX4_sizeOf_26 : decode cX4_sizeOf 26 = .ok (.goto 4, 3) := by decide +kernel
theorem dX4_sizeOf_29 : decode cX4_sizeOf 29 = .ok (.iconst 3, 1) := by decide +kernel
theorem dX4_sizeOf_30 : decode cX4_sizeOf 30 = .ok (.ireturn, 1) := by decide +kernel
theorem dX4_forks_0 : decode cX4_forks 0 = .ok (.aload_n 0, 1) := by decide +kernel
theorem dX4_forks_1 : decode cX4_forks 1 = .ok (.iconst 0, 1) := by decide +kernel
theorem dX4_forks_2 : decode cX4_forks 2 = .ok (.putfield 30, 3) := by decide +kernel
theorem dX4_forks_5 : decode cX4_forks 5 = .ok (.iload_n 1, 1) := by decide +kernel
theorem dX4_forks_6 : decode cX4_forks 6 = .ok (.ifCond .lt 8, 3) := by decide +kernel
theorem dX4_forks_9 : decode cX4_forks 9 = .ok (.iload_n 1, 1) := by decide +kernel
theorem dX4_forks_10 : decode cX4_forks 10 = .ok (.iconst 3, 1) := by decide +kernel
theorem dX4_forks_11 : decode cX4_forks 11 = .ok (.if_icmp .le 5, 3) := by decide +kernel
theorem dX4_forks_14 : decode cX4_forks 14 = .ok (.iconst (-1), 1) := by decide +kernel
theorem dX4_forks_15 : decode cX4_forks 15 = .ok (.ireturn, 1) := by decide +kernel
theorem dX4_forks_16 : decode cX4_forks 16 = .ok (.iconst 0, 1) := by decide +kernel
theorem dX4_forks_17 : decode cX4_forks 17 = .ok (.istore_n 2, 1) := by decide +kernel
theorem dX4_forks_18 : decode cX4_forks 18 = .ok (.iconst 0, 1) := by decide +kernel
theorem dX4_forks_19 : decode cX4_forks 19 = .ok (.istore_n 3, 1) := by decide +kernel
theorem dX4_forks_20 : decode cX4_forks 20 = .ok (.iload_n 3, 1) := by decide +kernel
theorem dX4_forks_21 : decode cX4_forks 21 = .ok (.aload_n 0, 1) := by decide +kernel
theorem dX4_forks_22 : decode cX4_forks 22 = .ok (.getfield 7, 3) := by decide +kernel
theorem dX4_forks_25 : decode cX4_forks 25 = .ok (.iconst 0, 1) := by decide +kernel
theorem dX4_forks_26 : decode cX4_forks 26 = .ok (.iaload, 1) := by decide +kernel
theorem dX4_forks_27 : decode cX4_forks 27 = .ok (.if_icmp .ge 108, 3) := by decide +kernel
theorem dX4_forks_30 : decode cX4_forks 30 = .ok (.iconst 0, 1) := by decide +kernel
theorem dX4_forks_31 : decode cX4_forks 31 = .ok (.istore 4, 2) := by decide +kernel
theorem dX4_forks_33 : decode cX4_forks 33 = .ok (.iload 4, 2) := by decide +kernel
theorem dX4_forks_35 : decode cX4_forks 35 = .ok (.aload_n 0, 1) := by decide +kernel
theorem dX4_forks_36 : decode cX4_forks 36 = .ok (.getfield 17, 3) := by decide +kernel
theorem dX4_forks_39 : decode cX4_forks 39 = .ok (.iload_n 3, 1) := by decide +kernel
theorem dX4_forks_40 : decode cX4_forks 40 = .ok (.iaload, 1) := by decide +kernel
theorem dX4_forks_41 : decode cX4_forks 41 = .ok (.if_icmp .gt 88, 3) := by decide +kernel
theorem dX4_forks_44 : decode cX4_forks 44 = .ok (.aload_n 0, 1) := by decide +kernel
theorem dX4_forks_45 : decode cX4_forks 45 = .ok (.getfield 13, 3) := by decide +kernel
theorem dX4_forks_48 : decode cX4_forks 48 = .ok (.iload_n 3, 1) := by decide +kernel
theorem dX4_forks_49 : decode cX4_forks 49 = .ok (.laload, 1) := by decide +kernel
theorem dX4_forks_50 : decode cX4_forks 50 = .ok (.iload 4, 2) := by decide +kernel
theorem dX4_forks_52 : decode cX4_forks 52 = .ok (.invokestatic 40, 3) := by decide +kernel
theorem dX4_forks_55 : decode cX4_forks 55 = .ok (.lstore 5, 2) := by decide +kernel
theorem dX4_forks_57 : decode cX4_forks 57 = .ok (.iload_n 3, 1) := by decide +kernel
theorem dX4_forks_58 : decode cX4_forks 58 = .ok (.ifCond .eq 17, 3) := by decide +kernel
theorem dX4_forks_61 : decode cX4_forks 61 = .ok (.aload_n 0, 1) := by decide +kernel
theorem dX4_forks_62 : decode cX4_forks 62 = .ok (.iload_n 3, 1) := by decide +kernel
theorem dX4_forks_63 : decode cX4_forks 63 = .ok (.iconst 1, 1) := by decide +kernel
theorem dX4_forks_64 : decode cX4_forks 64 = .ok (.isub, 1) := by decide +kernel
theorem dX4_forks_65 : decode cX4_forks 65 = .ok (.lload 5, 2) := by decide +kernel
theorem dX4_forks_67 : decode cX4_forks 67 = .ok (.iload 4, 2) := by decide +kernel
theorem dX4_forks_69 : decode cX4_forks 69 = .ok (.invokevirtual 55, 3) := by decide +kernel
theorem dX4_forks_72 : decode cX4_forks 72 = .ok (.ifCond .ne 7, 3) := by decide +kernel
theorem dX4_forks_75 : decode cX4_forks 75 = .ok (.iconst 1, 1) := by decide +kernel
theorem dX4_forks_76 : decode cX4_forks 76 = .ok (.goto 4, 3) := by decide +kernel
theorem dX4_forks_79 : decode cX4_forks 79 = .ok (.iconst 0, 1) := by decide +kernel
theorem dX4_forks_80 : decode cX4_forks 80 = .ok (.istore 7, 2) := by decide +kernel
theorem dX4_forks_82 : decode cX4_forks 82 = .ok (.iload 7, 2) := by decide +kernel
theorem dX4_forks_84 : decode cX4_forks 84 = .ok (.ifCond .eq 14, 3) := by decide +kernel
theorem dX4_forks_87 : decode cX4_forks 87 = .ok (.aload_n 0, 1) := by decide +kernel
theorem dX4_forks_88 : decode cX4_forks 88 = .ok (.lload 5, 2) := by decide +kernel
theorem dX4_forks_90 : decode cX4_forks 90 = .ok (.iload 4, 2) := by decide +kernel
theorem dX4_forks_92 : decode cX4_forks 92 = .ok (.invokevirtual 63, 3) := by decide +kernel
theorem dX4_forks_95 : decode cX4_forks 95 = .ok (.goto 4, 3) := by decide +kernel
theorem dX4_forks_98 : decode cX4_forks 98 = .ok (.iconst 0, 1) := by decide +kernel
theorem dX4_forks_99 : decode cX4_forks 99 = .ok (.istore 8, 2) := by decide +kernel
theorem dX4_forks_101 : decode cX4_forks 101 = .ok (.iload 8, 2) := by decide +kernel
theorem dX4_forks_103 : decode cX4_forks 103 = .ok (.ifCond .le 18, 3) := by decide +kernel
theorem dX4_forks_106 : decode cX4_forks 106 = .ok (.iload 8, 2) := by decide +kernel
theorem dX4_forks_108 : decode cX4_forks 108 = .ok (.invokestatic 66, 3) := by decide +kernel
theorem dX4_forks_111 : decode cX4_forks 111 = .ok (.iload_n 1, 1) := by decide +kernel
theorem dX4_forks_112 : decode cX4_forks 112 = .ok (.if_icmp .ne 9, 3) := by decide +kernel
theorem dX4_forks_115 : decode cX4_forks 115 = .ok (.iload_n 2, 1) := by decide +kernel
theorem dX4_forks_116 : decode cX4_forks 116 = .ok (.iconst 1, 1) := by decide +kernel
theorem dX4_forks_117 : decode cX4_forks 117 = .ok (.iadd, 1) := by decide +kernel
theorem dX4_forks_118 : decode cX4_forks 118 = .ok (.goto 4, 3) := by decide +kernel
theorem dX4_forks_121 : decode cX4_forks 121 = .ok (.iload_n 2, 1) := by decide +kernel
theorem dX4_forks_122 : decode cX4_forks 122 = .ok (.istore_n 2, 1) := by decide +kernel
theorem dX4_forks_123 : decode cX4_forks 123 = .ok (.iinc 4 1, 3) := by decide +kernel
theorem dX4_forks_126 : decode cX4_forks 126 = .ok (.goto (-93), 3) := by decide +kernel
theorem dX4_forks_129 : decode cX4_forks 129 = .ok (.iinc 3 1, 3) := by decide +kernel
theorem dX4_forks_132 : decode cX4_forks 132 = .ok (.goto (-112), 3) := by decide +kernel
theorem dX4_forks_135 : decode cX4_forks 135 = .ok (.iload_n 2, 1) := by decide +kernel
theorem dX4_forks_136 : decode cX4_forks 136 = .ok (.ireturn, 1) := by decide +kernel
theorem dX4_depth_0 : decode cX4_depth 0 = .ok (.aload_n 0, 1) := by decide +kernel
theorem dX4_depth_1 : decode cX4_depth 1 = .ok (.iconst 0, 1) := by decide +kernel
theorem dX4_depth_2 : decode cX4_depth 2 = .ok (.putfield 30, 3) := by decide +kernel
theorem dX4_depth_5 : decode cX4_depth 5 = .ok (.iload_n 3, 1) := by decide +kernel
theorem dX4_depth_6 : decode cX4_depth 6 = .ok (.ifCond .lt 9, 3) := by decide +kernel
theorem dX4_depth_9 : decode cX4_depth 9 = .ok (.iload_n 3, 1) := by decide +kernel
theorem dX4_depth_10 : decode cX4_depth 10 = .ok (.bipush 8, 2) := by decide +kernel
theorem dX4_depth_12 : decode cX4_depth 12 = .ok (.if_icmp .le 5, 3) := by decide +kernel
theorem dX4_depth_15 : decode cX4_depth 15 = .ok (.iconst (-1), 1) := by decide +kernel
theorem dX4_depth_16 : decode cX4_depth 16 = .ok (.ireturn, 1) := by decide +kernel
theorem dX4_depth_17 : decode cX4_depth 17 = .ok (.iconst 0, 1) := by decide +kernel
theorem dX4_depth_18 : decode cX4_depth 18 = .ok (.istore 4, 2) := by decide +kernel
theorem dX4_depth_20 : decode cX4_depth 20 = .ok (.iconst 0, 1) := by decide +kernel
theorem dX4_depth_21 : decode cX4_depth 21 = .ok (.istore 5, 2) := by decide +kernel
theorem dX4_depth_23 : decode cX4_depth 23 = .ok (.iload 5, 2) := by decide +kernel
theorem dX4_depth_25 : decode cX4_depth 25 = .ok (.iload_n 3, 1) := by decide +kernel
theorem dX4_depth_26 : decode cX4_depth 26 = .ok (.if_icmp .gt 35, 3) := by decide +kernel
theorem dX4_depth_29 : decode cX4_depth 29 = .ok (.aload_n 0, 1) := by decide +kernel
theorem dX4_depth_30 : decode cX4_depth 30 = .ok (.lload_n 1, 1) := by decide +kernel
theorem dX4_depth_31 : decode cX4_depth 31 = .ok (.iload 5, 2) := by decide +kernel
theorem dX4_depth_33 : decode cX4_depth 33 = .ok (.invokestatic 40, 3) := by decide +kernel
theorem dX4_depth_36 : decode cX4_depth 36 = .ok (.iload 5, 2) := by decide +kernel
theorem dX4_depth_38 : decode cX4_depth 38 = .ok (.invokevirtual 63, 3) := by decide +kernel
theorem dX4_depth_41 : decode cX4_depth 41 = .ok (.ifCond .le 10, 3) := by decide +kernel
theorem dX4_depth_44 : decode cX4_depth 44 = .ok (.iload 4, 2) := by decide +kernel
theorem dX4_depth_46 : decode cX4_depth 46 = .ok (.iconst 1, 1) := by decide +kernel
theorem dX4_depth_47 : decode cX4_depth 47 = .ok (.iadd, 1) := by decide +kernel
theorem dX4_depth_48 : decode cX4_depth 48 = .ok (.goto 5, 3) := by decide +kernel
theorem dX4_depth_51 : decode cX4_depth 51 = .ok (.iload 4, 2) := by decide +kernel
theorem dX4_depth_53 : decode cX4_depth 53 = .ok (.istore 4, 2) := by decide +kernel
theorem dX4_depth_55 : decode cX4_depth 55 = .ok (.iinc 5 1, 3) := by decide +kernel
theorem dX4_depth_58 : decode cX4_depth 58 = .ok (.goto (-35), 3) := by decide +kernel
theorem dX4_depth_61 : decode cX4_depth 61 = .ok (.iload 4, 2) := by decide +kernel
theorem dX4_depth_63 : decode cX4_depth 63 = .ok (.ireturn, 1) := by decide +kernel
theorem dX4_isOpen_0 : decode cX4_isOpen 0 = .ok (.iload_n 1, 1) := by decide +kernel
theorem dX4_isOpen_1 : decode cX4_isOpen 1 = .ok (.ifCond .lt 21, 3) := by decide +kernel
theorem dX4_isOpen_4 : decode cX4_isOpen 4 = .ok (.iload_n 1, 1) := by decide +kernel
theorem dX4_isOpen_5 : decode cX4_isOpen 5 = .ok (.iconst 3, 1) := by decide +kernel
theorem dX4_isOpen_6 : decode cX4_isOpen 6 = .ok (.if_icmp .ge 16, 3) := by decide +kernel
theorem dX4_isOpen_9 : decode cX4_isOpen 9 = .ok (.aload_n 0, 1) := by decide +kernel
theorem dX4_isOpen_10 : decode cX4_isOpen 10 = .ok (.getfield 23, 3) := by decide +kernel
theorem dX4_isOpen_13 : decode cX4_isOpen 13 = .ok (.iload_n 1, 1) := by decide +kernel
theorem dX4_isOpen_14 : decode cX4_isOpen 14 = .ok (.baload, 1) := by decide +kernel
theorem dX4_isOpen_15 : decode cX4_isOpen 15 = .ok (.ifCond .eq 7, 3) := by decide +kernel
theorem dX4_isOpen_18 : decode cX4_isOpen 18 = .ok (.iconst 1, 1) := by decide +kernel
theorem dX4_isOpen_19 : decode cX4_isOpen 19 = .ok (.goto 4, 3) := by decide +kernel
theorem dX4_isOpen_22 : decode cX4_isOpen 22 = .ok (.iconst 0, 1) := by decide +kernel
theorem dX4_isOpen_23 : decode cX4_isOpen 23 = .ok (.ireturn, 1) := by decide +kernel
theorem dX4_open_0 : decode cX4_open 0 = .ok (.aload_n 0, 1) := by decide +kernel
theorem dX4_open_1 : decode cX4_open 1 = .ok (.iconst 0, 1) := by decide +kernel
theorem dX4_open_2 : decode cX4_open 2 = .ok (.putfield 30, 3) := by decide +kernel
theorem dX4_open_5 : decode cX4_open 5 = .ok (.iload_n 1, 1) := by decide +kernel
theorem dX4_open_6 : decode cX4_open 6 = .ok (.ifCond .lt 17, 3) := by decide +kernel
theorem dX4_open_9 : decode cX4_open 9 = .ok (.iload_n 1, 1) := by decide +kernel
theorem dX4_open_10 : decode cX4_open 10 = .ok (.iconst 2, 1) := by decide +kernel
theorem dX4_open_11 : decode cX4_open 11 = .ok (.if_icmp .gt 12, 3) := by decide +kernel
theorem dX4_open_14 : decode cX4_open 14 = .ok (.aload_n 0, 1) := by decide +kernel
theorem dX4_open_15 : decode cX4_open 15 = .ok (.getfield 23, 3) := by decide +kernel
theorem dX4_open_18 : decode cX4_open 18 = .ok (.iload_n 1, 1) := by decide +kernel
theorem dX4_open_19 : decode cX4_open 19 = .ok (.baload, 1) := by decide +kernel
theorem dX4_open_20 : decode cX4_open 20 = .ok (.ifCond .eq 5, 3) := by decide +kernel
theorem dX4_open_23 : decode cX4_open 23 = .ok (.iconst 0, 1) := by decide +kernel
theorem dX4_open_24 : decode cX4_open 24 = .ok (.ireturn, 1) := by decide +kernel
theorem dX4_open_25 : decode cX4_open 25 = .ok (.aload_n 0, 1) := by decide +kernel
theorem dX4_open_26 : decode cX4_open 26 = .ok (.getfield 23, 3) := by decide +kernel
theorem dX4_open_29 : decode cX4_open 29 = .ok (.iload_n 1, 1) := by decide +kernel
theorem dX4_open_30 : decode cX4_open 30 = .ok (.iconst 1, 1) := by decide +kernel
theorem dX4_open_31 : decode cX4_open 31 = .ok (.bastore, 1) := by decide +kernel
theorem dX4_open_32 : decode cX4_open 32 = .ok (.aload_n 0, 1) := by decide +kernel
theorem dX4_open_33 : decode cX4_open 33 = .ok (.getfield 27, 3) := by decide +kernel
theorem dX4_open_36 : decode cX4_open 36 = .ok (.iload_n 1, 1) := by decide +kernel
theorem dX4_open_37 : decode cX4_open 37 = .ok (.iconst (-1), 1) := by decide +kernel
theorem dX4_open_38 : decode cX4_open 38 = .ok (.iastore, 1) := by decide +kernel
theorem dX4_open_39 : decode cX4_open 39 = .ok (.aload_n 0, 1) := by decide +kernel
theorem dX4_open_40 : decode cX4_open 40 = .ok (.getfield 7, 3) := by decide +kernel
theorem dX4_open_43 : decode cX4_open 43 = .ok (.iload_n 1, 1) := by decide +kernel
theorem dX4_open_44 : decode cX4_open 44 = .ok (.iconst 1, 1) := by decide +kernel
theorem dX4_open_45 : decode cX4_open 45 = .ok (.iadd, 1) := by decide +kernel
theorem dX4_open_46 : decode cX4_open 46 = .ok (.aload_n 0, 1) := by decide +kernel
theorem dX4_open_47 : decode cX4_open 47 = .ok (.getfield 7, 3) := by decide +kernel
theorem dX4_open_50 : decode cX4_open 50 = .ok (.iconst 0, 1) := by decide +kernel
theorem dX4_open_51 : decode cX4_open 51 = .ok (.iaload, 1) := by decide +kernel
theorem dX4_open_52 : decode cX4_open 52 = .ok (.iastore, 1) := by decide +kernel
theorem dX4_open_53 : decode cX4_open 53 = .ok (.iconst 0, 1) := by decide +kernel
theorem dX4_open_54 : decode cX4_open 54 = .ok (.istore_n 2, 1) := by decide +kernel
theorem dX4_open_55 : decode cX4_open 55 = .ok (.iload_n 2, 1) := by decide +kernel
theorem dX4_open_56 : decode cX4_open 56 = .ok (.aload_n 0, 1) := by decide +kernel
theorem dX4_open_57 : decode cX4_open 57 = .ok (.getfield 7, 3) := by decide +kernel
theorem dX4_open_60 : decode cX4_open 60 = .ok (.iconst 0, 1) := by decide +kernel
theorem dX4_open_61 : decode cX4_open 61 = .ok (.iaload, 1) := by decide +kernel
theorem dX4_open_62 : decode cX4_open 62 = .ok (.if_icmp .ge 22, 3) := by decide +kernel
theorem dX4_open_65 : decode cX4_open 65 = .ok (.aload_n 0, 1) := by decide +kernel
theorem dX4_open_66 : decode cX4_open 66 = .ok (.iload_n 2, 1) := by decide +kernel
theorem dX4_open_67 : decode cX4_open 67 = .ok (.bipush 120, 2) := by decide +kernel
theorem dX4_open_69 : decode cX4_open 69 = .ok (.iload_n 1, 1) := by decide +kernel
theorem dX4_open_70 : decode cX4_open 70 = .ok (.iconst 1, 1) := by decide +kernel
theorem dX4_open_71 : decode cX4_open 71 = .ok (.iadd, 1) := by decide +kernel
theorem dX4_open_72 : decode cX4_open 72 = .ok (.imul, 1) := by decide +kernel
theorem dX4_open_73 : decode cX4_open 73 = .ok (.iload_n 2, 1) := by decide +kernel
theorem dX4_open_74 : decode cX4_open 74 = .ok (.iadd, 1) := by decide +kernel
theorem dX4_open_75 : decode cX4_open 75 = .ok (.invokevirtual 51, 3) := by decide +kernel
theorem dX4_open_78 : decode cX4_open 78 = .ok (.iinc 2 1, 3) := by decide +kernel
theorem dX4_open_81 : decode cX4_open 81 = .ok (.goto (-26), 3) := by decide +kernel
theorem dX4_open_84 : decode cX4_open 84 = .ok (.iconst 1, 1) := by decide +kernel
theorem dX4_open_85 : decode cX4_open 85 = .ok (.ireturn, 1) := by decide +kernel
theorem dX4_close_0 : decode cX4_close 0 = .ok (.aload_n 0, 1) := by decide +kernel
theorem dX4_close_1 : decode cX4_close 1 = .ok (.iconst 0, 1) := by decide +kernel
theorem dX4_close_2 : decode cX4_close 2 = .ok (.putfield 30, 3) := by decide +kernel
theorem dX4_close_5 : decode cX4_close 5 = .ok (.aload_n 0, 1) := by decide +kernel
theorem dX4_close_6 : decode cX4_close 6 = .ok (.iload_n 1, 1) := by decide +kernel
theorem dX4_close_7 : decode cX4_close 7 = .ok (.invokevirtual 70, 3) := by decide +kernel
theorem dX4_close_10 : decode cX4_close 10 = .ok (.istore_n 2, 1) := by decide +kernel
theorem dX4_close_11 : decode cX4_close 11 = .ok (.iload_n 2, 1) := by decide +kernel
theorem dX4_close_12 : decode cX4_close 12 = .ok (.ifCond .eq 10, 3) := by decide +kernel
theorem dX4_close_15 : decode cX4_close 15 = .ok (.aload_n 0, 1) := by decide +kernel
theorem dX4_close_16 : decode cX4_close 16 = .ok (.getfield 23, 3) := by decide +kernel
theorem dX4_close_19 : decode cX4_close 19 = .ok (.iload_n 1, 1) := by decide +kernel
theorem dX4_close_20 : decode cX4_close 20 = .ok (.iconst 0, 1) := by decide +kernel
theorem dX4_close_21 : decode cX4_close 21 = .ok (.bastore, 1) := by decide +kernel
theorem dX4_close_22 : decode cX4_close 22 = .ok (.iload_n 2, 1) := by decide +kernel
theorem dX4_close_23 : decode cX4_close 23 = .ok (.ireturn, 1) := by decide +kernel
theorem dX4_seek_0 : decode cX4_seek 0 = .ok (.aload_n 0, 1) := by decide +kernel
theorem dX4_seek_1 : decode cX4_seek 1 = .ok (.iload 4, 2) := by decide +kernel
theorem dX4_seek_3 : decode cX4_seek 3 = .ok (.ifCond .lt 10, 3) := by decide +kernel
theorem dX4_seek_6 : decode cX4_seek 6 = .ok (.iload 4, 2) := by decide +kernel
theorem dX4_seek_8 : decode cX4_seek 8 = .ok (.bipush 8, 2) := by decide +kernel
theorem dX4_seek_10 : decode cX4_seek 10 = .ok (.if_icmp .le 7, 3) := by decide +kernel
theorem dX4_seek_13 : decode cX4_seek 13 = .ok (.iconst 1, 1) := by decide +kernel
theorem dX4_seek_14 : decode cX4_seek 14 = .ok (.goto 16, 3) := by decide +kernel
theorem dX4_seek_17 : decode cX4_seek 17 = .ok (.aload_n 0, 1) := by decide +kernel
theorem dX4_seek_18 : decode cX4_seek 18 = .ok (.iload_n 1, 1) := by decide +kernel
theorem dX4_seek_19 : decode cX4_seek 19 = .ok (.invokevirtual 70, 3) := by decide +kernel
theorem dX4_seek_22 : decode cX4_seek 22 = .ok (.ifCond .eq 7, 3) := by decide +kernel
theorem dX4_seek_25 : decode cX4_seek 25 = .ok (.iconst 0, 1) := by decide +kernel
theorem dX4_seek_26 : decode cX4_seek 26 = .ok (.goto 4, 3) := by decide +kernel
theorem dX4_seek_29 : decode cX4_seek 29 = .ok (.iconst 2, 1) := by decide +kernel
theorem dX4_seek_30 : decode cX4_seek 30 = .ok (.putfield 30, 3) := by decide +kernel
theorem dX4_seek_33 : decode cX4_seek 33 = .ok (.aload_n 0, 1) := by decide +kernel
theorem dX4_seek_34 : decode cX4_seek 34 = .ok (.getfield 30, 3) := by decide +kernel
theorem dX4_seek_37 : decode cX4_seek 37 = .ok (.ifCond .le 5, 3) := by decide +kernel
theorem dX4_seek_40 : decode cX4_seek 40 = .ok (.iconst 0, 1) := by decide +kernel
theorem dX4_seek_41 : decode cX4_seek 41 = .ok (.ireturn, 1) := by decide +kernel
theorem dX4_seek_42 : decode cX4_seek 42 = .ok (.aload_n 0, 1) := by decide +kernel
theorem dX4_seek_43 : decode cX4_seek 43 = .ok (.getfield 27, 3) := by decide +kernel
theorem dX4_seek_46 : decode cX4_seek 46 = .ok (.iload_n 1, 1) := by decide +kernel
theorem dX4_seek_47 : decode cX4_seek 47 = .ok (.aload_n 0, 1) := by decide +kernel
theorem dX4_seek_48 : decode cX4_seek 48 = .ok (.iload_n 1, 1) := by decide +kernel
theorem dX4_seek_49 : decode cX4_seek 49 = .ok (.iconst 1, 1) := by decide +kernel
theorem dX4_seek_50 : decode cX4_seek 50 = .ok (.iadd, 1) := by decide +kernel
theorem dX4_seek_51 : decode cX4_seek 51 = .ok (.lload_n 2, 1) := by decide +kernel
theorem dX4_seek_52 : decode cX4_seek 52 = .ok (.iload 4, 2) := by decide +kernel
theorem dX4_seek_54 : decode cX4_seek 54 = .ok (.invokestatic 40, 3) := by decide +kernel
theorem dX4_seek_57 : decode cX4_seek 57 = .ok (.iload 4, 2) := by decide +kernel
theorem dX4_seek_59 : decode cX4_seek 59 = .ok (.invokevirtual 44, 3) := by decide +kernel
theorem dX4_seek_62 : decode cX4_seek 62 = .ok (.bipush 120, 2) := by decide +kernel
theorem dX4_seek_64 : decode cX4_seek 64 = .ok (.iload_n 1, 1) := by decide +kernel
theorem dX4_seek_65 : decode cX4_seek 65 = .ok (.iconst 1, 1) := by decide +kernel
theorem dX4_seek_66 : decode cX4_seek 66 = .ok (.iadd, 1) := by decide +kernel
theorem dX4_seek_67 : decode cX4_seek 67 = .ok (.imul, 1) := by decide +kernel
theorem dX4_seek_68 : decode cX4_seek 68 = .ok (.isub, 1) := by decide +kernel
theorem dX4_seek_69 : decode cX4_seek 69 = .ok (.iastore, 1) := by decide +kernel
theorem dX4_seek_70 : decode cX4_seek 70 = .ok (.aload_n 0, 1) := by decide +kernel
theorem dX4_seek_71 : decode cX4_seek 71 = .ok (.getfield 27, 3) := by decide +kernel
theorem dX4_seek_74 : decode cX4_seek 74 = .ok (.iload_n 1, 1) := by decide +kernel
theorem dX4_seek_75 : decode cX4_seek 75 = .ok (.iaload, 1) := by decide +kernel
theorem dX4_seek_76 : decode cX4_seek 76 = .ok (.aload_n 0, 1) := by decide +kernel
theorem dX4_seek_77 : decode cX4_seek 77 = .ok (.getfield 7, 3) := by decide +kernel
theorem dX4_seek_80 : decode cX4_seek 80 = .ok (.iload_n 1, 1) := by decide +kernel
theorem dX4_seek_81 : decode cX4_seek 81 = .ok (.iconst 1, 1) := by decide +kernel
theorem dX4_seek_82 : decode cX4_seek 82 = .ok (.iadd, 1) := by decide +kernel
theorem dX4_seek_83 : decode cX4_seek 83 = .ok (.iaload, 1) := by decide +kernel
theorem dX4_seek_84 : decode cX4_seek 84 = .ok (.if_icmp .ge 7, 3) := by decide +kernel
theorem dX4_seek_87 : decode cX4_seek 87 = .ok (.iconst 1, 1) := by decide +kernel
theorem dX4_seek_88 : decode cX4_seek 88 = .ok (.goto 4, 3) := by decide +kernel
theorem dX4_seek_91 : decode cX4_seek 91 = .ok (.iconst 0, 1) := by decide +kernel
theorem dX4_seek_92 : decode cX4_seek 92 = .ok (.ireturn, 1) := by decide +kernel
theorem dX4_next_0 : decode cX4_next 0 = .ok (.aload_n 0, 1) := by decide +kernel
theorem dX4_next_1 : decode cX4_next 1 = .ok (.aload_n 0, 1) := by decide +kernel
theorem dX4_next_2 : decode cX4_next 2 = .ok (.iload_n 1, 1) := by decide +kernel
theorem dX4_next_3 : decode cX4_next 3 = .ok (.invokevirtual 70, 3) := by decide +kernel
theorem dX4_next_6 : decode cX4_next 6 = .ok (.ifCond .eq 7, 3) := by decide +kernel
theorem dX4_next_9 : decode cX4_next 9 = .ok (.iconst 0, 1) := by decide +kernel
theorem dX4_next_10 : decode cX4_next 10 = .ok (.goto 4, 3) := by decide +kernel
theorem dX4_next_13 : decode cX4_next 13 = .ok (.iconst 1, 1) := by decide +kernel
theorem dX4_next_14 : decode cX4_next 14 = .ok (.putfield 30, 3) := by decide +kernel
theorem dX4_next_17 : decode cX4_next 17 = .ok (.aload_n 0, 1) := by decide +kernel
theorem dX4_next_18 : decode cX4_next 18 = .ok (.getfield 30, 3) := by decide +kernel
theorem dX4_next_21 : decode cX4_next 21 = .ok (.ifCond .le 5, 3) := by decide +kernel
theorem dX4_next_24 : decode cX4_next 24 = .ok (.iconst 0, 1) := by decide +kernel
theorem dX4_next_25 : decode cX4_next 25 = .ok (.ireturn, 1) := by decide +kernel
theorem dX4_next_26 : decode cX4_next 26 = .ok (.aload_n 0, 1) := by decide +kernel
theorem dX4_next_27 : decode cX4_next 27 = .ok (.getfield 27, 3) := by decide +kernel
theorem dX4_next_30 : decode cX4_next 30 = .ok (.iload_n 1, 1) := by decide +kernel
theorem dX4_next_31 : decode cX4_next 31 = .ok (.aload_n 0, 1) := by decide +kernel
theorem dX4_next_32 : decode cX4_next 32 = .ok (.getfield 27, 3) := by decide +kernel
theorem dX4_next_35 : decode cX4_next 35 = .ok (.iload_n 1, 1) := by decide +kernel
theorem dX4_next_36 : decode cX4_next 36 = .ok (.iaload, 1) := by decide +kernel
theorem dX4_next_37 : decode cX4_next 37 = .ok (.aload_n 0, 1) := by decide +kernel
theorem dX4_next_38 : decode cX4_next 38 = .ok (.getfield 7, 3) := by decide +kernel
theorem dX4_next_41 : decode cX4_next 41 = .ok (.iload_n 1, 1) := by decide +kernel
theorem dX4_next_42 : decode cX4_next 42 = .ok (.iconst 1, 1) := by decide +kernel
theorem dX4_next_43 : decode cX4_next 43 = .ok (.iadd, 1) := by decide +kernel
theorem dX4_next_44 : decode cX4_next 44 = .ok (.iaload, 1) := by decide +kernel
theorem dX4_next_45 : decode cX4_next 45 = .ok (.if_icmp .ge 14, 3) := by decide +kernel
theorem dX4_next_48 : decode cX4_next 48 = .ok (.aload_n 0, 1) := by decide +kernel
theorem dX4_next_49 : decode cX4_next 49 = .ok (.getfield 27, 3) := by decide +kernel
theorem dX4_next_52 : decode cX4_next 52 = .ok (.iload_n 1, 1) := by decide +kernel
theorem dX4_next_53 : decode cX4_next 53 = .ok (.iaload, 1) := by decide +kernel
theorem dX4_next_54 : decode cX4_next 54 = .ok (.iconst 1, 1) := by decide +kernel
theorem dX4_next_55 : decode cX4_next 55 = .ok (.iadd, 1) := by decide +kernel
theorem dX4_next_56 : decode cX4_next 56 = .ok (.goto 9, 3) := by decide +kernel
theorem dX4_next_59 : decode cX4_next 59 = .ok (.aload_n 0, 1) := by decide +kernel
theorem dX4_next_60 : decode cX4_next 60 = .ok (.getfield 27, 3) := by decide +kernel
theorem dX4_next_63 : decode cX4_next 63 = .ok (.iload_n 1, 1) := by decide +kernel
theorem dX4_next_64 : decode cX4_next 64 = .ok (.iaload, 1) := by decide +kernel
theorem dX4_next_65 : decode cX4_next 65 = .ok (.iastore, 1) := by decide +kernel
theorem dX4_next_66 : decode cX4_next 66 = .ok (.aload_n 0, 1) := by decide +kernel
theorem dX4_next_67 : decode cX4_next 67 = .ok (.getfield 27, 3) := by decide +kernel
theorem dX4_next_70 : decode cX4_next 70 = .ok (.iload_n 1, 1) := by decide +kernel
theorem dX4_next_71 : decode cX4_next 71 = .ok (.iaload, 1) := by decide +kernel
theorem dX4_next_72 : decode cX4_next 72 = .ok (.aload_n 0, 1) := by decide +kernel
theorem dX4_next_73 : decode cX4_next 73 = .ok (.getfield 7, 3) := by decide +kernel
theorem dX4_next_76 : decode cX4_next 76 = .ok (.iload_n 1, 1) := by decide +kernel
theorem dX4_next_77 : decode cX4_next 77 = .ok (.iconst 1, 1) := by decide +kernel
theorem dX4_next_78 : decode cX4_next 78 = .ok (.iadd, 1) := by decide +kernel
theorem dX4_next_79 : decode cX4_next 79 = .ok (.iaload, 1) := by decide +kernel
theorem dX4_next_80 : decode cX4_next 80 = .ok (.if_icmp .ge 7, 3) := by decide +kernel
theorem dX4_next_83 : decode cX4_next 83 = .ok (.iconst 1, 1) := by decide +kernel
theorem dX4_next_84 : decode cX4_next 84 = .ok (.goto 4, 3) := by decide +kernel
theorem dX4_next_87 : decode cX4_next 87 = .ok (.iconst 0, 1) := by decide +kernel
theorem dX4_next_88 : decode cX4_next 88 = .ok (.ireturn, 1) := by decide +kernel
theorem dX4_on_0 : decode cX4_on 0 = .ok (.aload_n 0, 1) := by decide +kernel
theorem dX4_on_1 : decode cX4_on 1 = .ok (.iload_n 1, 1) := by decide +kernel
theorem dX4_on_2 : decode cX4_on 2 = .ok (.invokevirtual 70, 3) := by decide +kernel
theorem dX4_on_5 : decode cX4_on 5 = .ok (.ifCond .eq 29, 3) := by decide +kernel
theorem dX4_on_8 : decode cX4_on 8 = .ok (.aload_n 0, 1) := by decide +kernel
theorem dX4_on_9 : decode cX4_on 9 = .ok (.getfield 27, 3) := by decide +kernel
theorem dX4_on_12 : decode cX4_on 12 = .ok (.iload_n 1, 1) := by decide +kernel
theorem dX4_on_13 : decode cX4_on 13 = .ok (.iaload, 1) := by decide +kernel
theorem dX4_on_14 : decode cX4_on 14 = .ok (.ifCond .lt 20, 3) := by decide +kernel
theorem dX4_on_17 : decode cX4_on 17 = .ok (.aload_n 0, 1) := by decide +kernel
theorem dX4_on_18 : decode cX4_on 18 = .ok (.getfield 27, 3) := by decide +kernel
theorem dX4_on_21 : decode cX4_on 21 = .ok (.iload_n 1, 1) := by decide +kernel
theorem dX4_on_22 : decode cX4_on 22 = .ok (.iaload, 1) := by decide +kernel
theorem dX4_on_23 : decode cX4_on 23 = .ok (.aload_n 0, 1) := by decide +kernel
theorem dX4_on_24 : decode cX4_on 24 = .ok (.getfield 7, 3) := by decide +kernel
theorem dX4_on_27 : decode cX4_on 27 = .ok (.iload_n 1, 1) := by decide +kernel
theorem dX4_on_28 : decode cX4_on 28 = .ok (.iconst 1, 1) := by decide +kernel
theorem dX4_on_29 : decode cX4_on 29 = .ok (.iadd, 1) := by decide +kernel
theorem dX4_on_30 : decode cX4_on 30 = .ok (.iaload, 1) := by decide +kernel
theorem dX4_on_31 : decode cX4_on 31 = .ok (.if_icmp .lt 5, 3) := by decide +kernel
theorem dX4_on_34 : decode cX4_on 34 = .ok (.iconst (-1), 1) := by decide +kernel
theorem dX4_on_35 : decode cX4_on 35 = .ok (.ireturn, 1) := by decide +kernel
theorem dX4_on_36 : decode cX4_on 36 = .ok (.bipush 120, 2) := by decide +kernel
theorem dX4_on_38 : decode cX4_on 38 = .ok (.iload_n 1, 1) := by decide +kernel
theorem dX4_on_39 : decode cX4_on 39 = .ok (.iconst 1, 1) := by decide +kernel
theorem dX4_on_40 : decode cX4_on 40 = .ok (.iadd, 1) := by decide +kernel
theorem dX4_on_41 : decode cX4_on 41 = .ok (.imul, 1) := by decide +kernel
theorem dX4_on_42 : decode cX4_on 42 = .ok (.aload_n 0, 1) := by decide +kernel
theorem dX4_on_43 : decode cX4_on 43 = .ok (.getfield 27, 3) := by decide +kernel
theorem dX4_on_46 : decode cX4_on 46 = .ok (.iload_n 1, 1) := by decide +kernel
theorem dX4_on_47 : decode cX4_on 47 = .ok (.iaload, 1) := by decide +kernel
theorem dX4_on_48 : decode cX4_on 48 = .ok (.iadd, 1) := by decide +kernel
theorem dX4_on_49 : decode cX4_on 49 = .ok (.ireturn, 1) := by decide +kernel
theorem dX4_key_0 : decode cX4_key 0 = .ok (.aload_n 0, 1) := by decide +kernel
theorem dX4_key_1 : decode cX4_key 1 = .ok (.iconst 0, 1) := by decide +kernel
theorem dX4_key_2 : decode cX4_key 2 = .ok (.putfield 30, 3) := by decide +kernel
theorem dX4_key_5 : decode cX4_key 5 = .ok (.aload_n 0, 1) := by decide +kernel
theorem dX4_key_6 : decode cX4_key 6 = .ok (.iload_n 1, 1) := by decide +kernel
theorem dX4_key_7 : decode cX4_key 7 = .ok (.invokevirtual 74, 3) := by decide +kernel
theorem dX4_key_10 : decode cX4_key 10 = .ok (.istore_n 2, 1) := by decide +kernel
theorem dX4_key_11 : decode cX4_key 11 = .ok (.iload_n 2, 1) := by decide +kernel
theorem dX4_key_12 : decode cX4_key 12 = .ok (.ifCond .ge 7, 3) := by decide +kernel
theorem dX4_key_15 : decode cX4_key 15 = .ok (.lconst 0, 1) := by decide +kernel
theorem dX4_key_16 : decode cX4_key 16 = .ok (.goto 9, 3) := by decide +kernel
theorem dX4_key_19 : decode cX4_key 19 = .ok (.aload_n 0, 1) := by decide +kernel
theorem dX4_key_20 : decode cX4_key 20 = .ok (.getfield 13, 3) := by decide +kernel
theorem dX4_key_23 : decode cX4_key 23 = .ok (.iload_n 2, 1) := by decide +kernel
theorem dX4_key_24 : decode cX4_key 24 = .ok (.laload, 1) := by decide +kernel
theorem dX4_key_25 : decode cX4_key 25 = .ok (.lreturn, 1) := by decide +kernel
theorem dX4_length_0 : decode cX4_length 0 = .ok (.aload_n 0, 1) := by decide +kernel
theorem dX4_length_1 : decode cX4_length 1 = .ok (.iconst 0, 1) := by decide +kernel
theorem dX4_length_2 : decode cX4_length 2 = .ok (.putfield 30, 3) := by decide +kernel
theorem dX4_length_5 : decode cX4_length 5 = .ok (.aload_n 0, 1) := by decide +kernel
theorem dX4_length_6 : decode cX4_length 6 = .ok (.iload_n 1, 1) := by decide +kernel
theorem dX4_length_7 : decode cX4_length 7 = .ok (.invokevirtual 74, 3) := by decide +kernel
theorem dX4_length_10 : decode cX4_length 10 = .ok (.istore_n 2, 1) := by decide +kernel
theorem dX4_length_11 : decode cX4_length 11 = .ok (.iload_n 2, 1) := by decide +kernel
theorem dX4_length_12 : decode cX4_length 12 = .ok (.ifCond .ge 7, 3) := by decide +kernel
theorem dX4_length_15 : decode cX4_length 15 = .ok (.iconst (-1), 1) := by decide +kernel
theorem dX4_length_16 : decode cX4_length 16 = .ok (.goto 9, 3) := by decide +kernel
theorem dX4_length_19 : decode cX4_length 19 = .ok (.aload_n 0, 1) := by decide +kernel
theorem dX4_length_20 : decode cX4_length 20 = .ok (.getfield 17, 3) := by decide +kernel
theorem dX4_length_23 : decode cX4_length 23 = .ok (.iload_n 2, 1) := by decide +kernel
theorem dX4_length_24 : decode cX4_length 24 = .ok (.iaload, 1) := by decide +kernel
theorem dX4_length_25 : decode cX4_length 25 = .ok (.ireturn, 1) := by decide +kernel
theorem dX4_value_0 : decode cX4_value 0 = .ok (.aload_n 0, 1) := by decide +kernel
theorem dX4_value_1 : decode cX4_value 1 = .ok (.iconst 0, 1) := by decide +kernel
theorem dX4_value_2 : decode cX4_value 2 = .ok (.putfield 30, 3) := by decide +kernel
theorem dX4_value_5 : decode cX4_value 5 = .ok (.aload_n 0, 1) := by decide +kernel
theorem dX4_value_6 : decode cX4_value 6 = .ok (.iload_n 1, 1) := by decide +kernel
theorem dX4_value_7 : decode cX4_value 7 = .ok (.invokevirtual 74, 3) := by decide +kernel
theorem dX4_value_10 : decode cX4_value 10 = .ok (.istore_n 2, 1) := by decide +kernel
theorem dX4_value_11 : decode cX4_value 11 = .ok (.iload_n 2, 1) := by decide +kernel
theorem dX4_value_12 : decode cX4_value 12 = .ok (.ifCond .ge 7, 3) := by decide +kernel
theorem dX4_value_15 : decode cX4_value 15 = .ok (.iconst 0, 1) := by decide +kernel
theorem dX4_value_16 : decode cX4_value 16 = .ok (.goto 9, 3) := by decide +kernel
theorem dX4_value_19 : decode cX4_value 19 = .ok (.aload_n 0, 1) := by decide +kernel
theorem dX4_value_20 : decode cX4_value 20 = .ok (.getfield 20, 3) := by decide +kernel
theorem dX4_value_23 : decode cX4_value 23 = .ok (.iload_n 2, 1) := by decide +kernel
theorem dX4_value_24 : decode cX4_value 24 = .ok (.iaload, 1) := by decide +kernel
theorem dX4_value_25 : decode cX4_value 25 = .ok (.ireturn, 1) := by decide +kernel
end
section
/-! the context of all contracts: the classes' numbers and slots, the array classes, the links across the nest -/
abbrev kz_G : Type := va_G × ClassId × ClassId × ClassId × ClassId
abbrev gI (G : kz_G) : ClassId := G.2.1
abbrev gJ (G : kz_G) : ClassId := G.2.2.1
abbrev gZ (G : kz_G) : ClassId := G.2.2.2.1
abbrev gO (G : kz_G) : ClassId := G.2.2.2.2
abbrev kz_tys (G : kz_G) : List (ClassId × FieldType) := [(gI G, .int), (gJ G, .long), (gZ G, .boolean), (gO G, .object "ForkStore$Reader")]
def kz_K (G : kz_G) (U : State) : Prop := va_K G.1 vwCl (kz_tys G) U ∧ va_Nw (.methodLinkNest RX1 36 yX3_bytesInCommon RX3) U
theorem kz_K.warm {G : kz_G} {s U : State} (hW : s.WarmedH U.vm) (h : kz_K G s) : kz_K G U := ⟨va_K.moved hW.alike h.1, va_Nw.warmM hW h.2⟩
theorem kz_K.call {G : kz_G} {U : State} {g : JFrame} {mk : MethodId} {a : Array Value} (h : kz_K G U) : kz_K G (U.calling g mk a) :=
  ⟨va_K.moved (u := U) (U := U.calling g mk a) (Vm.Alike.refl U.vm) h.1, va_Nw.same rfl (u := U) (U := U.calling g mk a) rfl h.2⟩
/-- a start: a method that only reads -/
def kz_Pp (G : kz_G) (av : List Value) (ws : va_W) : Array Value → State → Prop := va_Pc av (fun U => va_P G.1 vwCl ws U.heap ∧ kz_K G U)
/-- a start: a method that writes -/
def kz_Pm (G : kz_G) (av : List Value) (ws : va_W) (sz : Nat) : Array Value → State → Prop := va_Pc av (fun U => U.heap.size = sz ∧ va_P G.1 vwCl ws U.heap ∧ kz_K G U ∧ va_D (fun _ => True) ws)
/-- a start: a method that sees no heap -/
def kz_P0 (av : List Value) : Array Value → State → Prop := va_Pc av (fun _ => True)
theorem kz_blP {G : kz_G} {av : List Value} {ws : va_W} : FrameBlind (kz_Pp G av ws) := fun _ _ _ _ h => ⟨h.1, h.2.1, h.2.2.call⟩
theorem kz_blM {G : kz_G} {av : List Value} {ws : va_W} {sz : Nat} : FrameBlind (kz_Pm G av ws sz) := fun _ _ _ _ h => ⟨h.1, h.2.1, h.2.2.1, h.2.2.2.1.call, h.2.2.2.2⟩
theorem kz_bl0 {av : List Value} : FrameBlind (kz_P0 av) := fun _ _ _ _ h => h
theorem kz_pv {G : kz_G} {s : State} {H : Heap} {C : String} {b : Addr} {As : List Value} {ws : va_W} (hK : kz_K G s) (hP : va_P G.1 vwCl ws H) (hr : ∃ cell : Cell, H[b]? = some cell ∧ cell.vm.isStatics = false ∧ s.vm.findClass C = some cell.cls) : PreV s H C b (kz_Pp G (.ref b :: As) ws) As :=
  ⟨kz_blP, hr, fun U hU hW => ⟨rfl, by rw [hU]; exact hP, hK.warm hW⟩⟩
theorem kz_pvm {G : kz_G} {s : State} {H : Heap} {C : String} {b : Addr} {As : List Value} {A : Nat → Prop} {ws : va_W} (hK : kz_K G s) (hP : va_P G.1 vwCl ws H) (hD : va_D A ws) (hr : ∃ cell : Cell, H[b]? = some cell ∧ cell.vm.isStatics = false ∧ s.vm.findClass C = some cell.cls) : PreV s H C b (kz_Pm G (.ref b :: As) ws H.size) As :=
  ⟨kz_blM, hr, fun U hU hW => ⟨rfl, by rw [hU], by rw [hU]; exact hP, hK.warm hW, hD.weaken (fun _ _ _ _ => trivial)⟩⟩
theorem kz_ps {G : kz_G} {s : State} {H : Heap} {As : List Value} {ws : va_W} (hK : kz_K G s) (hP : va_P G.1 vwCl ws H) : PreS s H (kz_Pp G As ws) As :=
  ⟨kz_blP, fun U hU hW => ⟨rfl, by rw [hU]; exact hP, hK.warm hW⟩⟩
theorem kz_ps0 {s : State} {H : Heap} {As : List Value} : PreS s H (kz_P0 As) As := ⟨kz_bl0, fun U hU hW => ⟨rfl, trivial⟩⟩
/-- an end: an answer and a new world at the same addresses -/
def kz_Qi (G : kz_G) (post : Int32 → va_W → Prop) (A : Nat → Prop) : Array Value → State → Outcome → State → Prop := va_Qi (S := va_W) post (fun w t => va_P G.1 vwCl w t.heap) A
def kz_Qv (G : kz_G) (post : va_W → Prop) (A : Nat → Prop) : Array Value → State → Outcome → State → Prop := va_Qv (S := va_W) post (fun w t => va_P G.1 vwCl w t.heap) A
/-! replacing cells of a world in their places -/
def kz_rep : va_W → List Nat → va_W → va_W
  | ws, i :: is, e :: w1 => kz_rep (ws.set i e) is w1
  | ws, _, _ => ws
theorem kz_rep_get : ∀ (is : List Nat) (w1 ws : va_W), va_nd is = true → is.length = w1.length → ∀ (k : Nat) (q : Nat × va_E), (kz_rep ws is w1)[k]? = some q → (k ∉ is ∧ ws[k]? = some q) ∨ ∃ j : Nat, is[j]? = some k ∧ w1[j]? = some q
  | [], [], ws, _, _, k, q, h => Or.inl ⟨List.not_mem_nil, h⟩
  | i :: is, e :: w1, ws, hn, hl, k, q, h => by
    simp only [va_nd, Bool.and_eq_true, decide_eq_true_eq] at hn
    have h' : (kz_rep (ws.set i e) is w1)[k]? = some q := h
    rcases kz_rep_get is w1 (ws.set i e) hn.2 (by simpa using hl) k q h' with ⟨h1, h2⟩ | ⟨j, h1, h2⟩
    · by_cases hk : i = k
      · subst hk
        have hlt : i < ws.length := by
          have := (List.getElem?_eq_some_iff.mp h2).1
          simpa using this
        rw [List.getElem?_set_self hlt] at h2
        exact Or.inr ⟨0, rfl, h2⟩
      · rw [List.getElem?_set_ne hk] at h2
        exact Or.inl ⟨fun z => by rcases List.mem_cons.mp z with z | z; exact hk z.symm; exact h1 z, h2⟩
    · exact Or.inr ⟨j + 1, by rw [List.getElem?_cons_succ]; exact h1, by rw [List.getElem?_cons_succ]; exact h2⟩
theorem kz_join {A0 : Nat → Prop} {D : va_G} {cl : List vw_C} {ws wc w1 : va_W} {H H1 : Heap} (hP : va_P D cl ws H) (hD : va_D A0 ws) (is : List Nat) (hC : is.map (fun i => ws[i]?) = wc.map some) (hn : va_nd is = true) (had : wc.map (fun q => q.1) = w1.map (fun q => q.1))
    (hk : ∀ q : Nat, q < H.size → ¬ va_A wc H.size q → H1[q]? = H[q]?) (hP1 : va_P D cl w1 H1) : va_P D cl (kz_rep ws is w1) H1 ∧ va_D A0 (kz_rep ws is w1) := by
  have hlen : is.length = w1.length := by
    have h1 := congrArg List.length hC
    have h2 := congrArg List.length had
    simp at h1 h2
    omega
  have at' : ∀ (k : Nat) (q : Nat × va_E), wc[k]? = some q → ∃ i, is[k]? = some i ∧ ws[i]? = some q := by
    intro k q hq
    have h1 : (is.map (fun i => ws[i]?))[k]? = some (some q) := by rw [hC, List.getElem?_map, hq]; rfl
    rw [List.getElem?_map] at h1
    cases hi : is[k]? with
    | none => rw [hi] at h1; cases h1
    | some i => rw [hi] at h1; exact ⟨i, rfl, Option.some.inj h1⟩
  have addr : ∀ (j : Nat) (q : Nat × va_E), w1[j]? = some q → ∃ q0, wc[j]? = some q0 ∧ q0.1 = q.1 := by
    intro j q hq
    have h1 : (w1.map (fun q => q.1))[j]? = some q.1 := by rw [List.getElem?_map, hq]; rfl
    rw [← had, List.getElem?_map] at h1
    cases hi : wc[j]? with
    | none => rw [hi] at h1; cases h1
    | some q0 => rw [hi] at h1; exact ⟨q0, rfl, Option.some.inj h1⟩
  have key : ∀ (k : Nat) (q : Nat × va_E), (kz_rep ws is w1)[k]? = some q → ∃ q0, ws[k]? = some q0 ∧ q0.1 = q.1 := by
    intro k q h
    rcases kz_rep_get is w1 ws hn hlen k q h with ⟨-, h2⟩ | ⟨j, h1, h2⟩
    · exact ⟨q, h2, rfl⟩
    · obtain ⟨q0, h3, h4⟩ := addr j q h2
      obtain ⟨i, h5, h6⟩ := at' j q0 h3
      rw [h1] at h5
      cases h5
      exact ⟨q0, h6, h4⟩
  refine ⟨fun k q h => ?_, ⟨fun i j x y hi hj hxy => ?_, fun k q h => ?_⟩⟩
  · rcases kz_rep_get is w1 ws hn hlen k q h with ⟨h1, h2⟩ | ⟨j, h1, h2⟩
    · have hl := (hP k q h2).lt
      refine (hP k q h2).kept (hk q.1 hl (fun z => ?_))
      rcases z with ⟨k2, e, z⟩ | z
      · obtain ⟨i, h5, h6⟩ := at' k2 (q.1, e) z
        have := hD.1 k i q (q.1, e) h2 h6 rfl
        subst this
        exact h1 (List.mem_of_getElem? h5)
      · omega
    · exact hP1 j q h2
  · obtain ⟨a, h1, h2⟩ := key i x hi
    obtain ⟨b, h3, h4⟩ := key j y hj
    exact hD.1 i j a b h1 h3 (by rw [h2, h4]; exact hxy)
  · obtain ⟨a, h1, h2⟩ := key k q h
    rw [← h2]
    exact hD.2 k a h1
section KZ
variable {p : Program} {l : Launch} {e : Env} {R : Room} {s : State} {m : MethodId} {args : Array Value} {below : List Frame} {meth : Method} {c : Code} {H : Heap} {locs : List Loc} {cells slots : Nat} {Q : State → Prop}
variable {cc : ByteArray} {pc : Nat} {ls : Array Slot} {rest : List Value} {D : va_G} {cl : List vw_C} {A : Nat → Prop} {a : Nat} {tys : List (ClassId × FieldType)} {ws : va_W} {H0 : Heap}
theorem kz_asi {x y : Int32} (h : x = y) (k : W p l e R s m args below meth c H locs cells slots Q (F0 m pc ls (.int y :: rest))) : W p l e R s m args below meth c H locs cells slots Q (F0 m pc ls (.int x :: rest)) := by subst h; exact k
theorem kz_asl {x y : Int64} (h : x = y) (k : W p l e R s m args below meth c H locs cells slots Q (F0 m pc ls (.long y :: rest))) : W p l e R s m args below meth c H locs cells slots Q (F0 m pc ls (.long x :: rest)) := by subst h; exact k
theorem kz_asi1 {x y : Int32} {v : Value} (h : x = y) (k : W p l e R s m args below meth c H locs cells slots Q (F0 m pc ls (v :: .int y :: rest))) : W p l e R s m args below meth c H locs cells slots Q (F0 m pc ls (v :: .int x :: rest)) := by subst h; exact k
theorem kz_asq {x y : Value} (h : x = y) (k : W p l e R s m args below meth c H locs cells slots Q (F0 m pc ls (y :: rest))) : W p l e R s m args below meth c H locs cells slots Q (F0 m pc ls (x :: rest)) := by subst h; exact k
theorem kz_iald (hexec : p.tables.exec = Jvm.exec) (hb : c.code = cc) (hK : va_K D cl tys s) (hP : va_P D cl ws H) (q0 t0 : Nat) {cA : ClassId} {n : Nat} {f : Nat → Int32} (ha : ws[q0]? = some (a, .inl (cA, n, .inl f))) (ht : tys[t0]? = some (cA, .int)) {k : Nat} (hk : k < n) (hn : n < 2 ^ 31) (hdg : decode cc pc = .ok (.iaload, 1))
    (kk : W p l e R s m args below meth c H locs cells slots Q (F0 m (pc + 1) ls (.int (f k) :: rest))) : W p l e R s m args below meth c H locs cells slots Q (F0 m pc ls (.int (nI k) :: .ref a :: rest)) :=
  va_iald hexec hb hK hP q0 t0 ha ht (vp_in_nI hk hn) hdg (by rw [nI_clamp (by omega)]; exact kk)
theorem kz_zald (hexec : p.tables.exec = Jvm.exec) (hb : c.code = cc) (hK : va_K D cl tys s) (hP : va_P D cl ws H) (q0 t0 : Nat) {cA : ClassId} {n : Nat} {f : Nat → Int32} (ha : ws[q0]? = some (a, .inl (cA, n, .inl f))) (ht : tys[t0]? = some (cA, .boolean)) {k : Nat} (hk : k < n) (hn : n < 2 ^ 31) (hdg : decode cc pc = .ok (.baload, 1))
    (kk : W p l e R s m args below meth c H locs cells slots Q (F0 m (pc + 1) ls (.int (f k) :: rest))) : W p l e R s m args below meth c H locs cells slots Q (F0 m pc ls (.int (nI k) :: .ref a :: rest)) :=
  va_zald hexec hb hK hP q0 t0 ha ht (vp_in_nI hk hn) hdg (by rw [nI_clamp (by omega)]; exact kk)
theorem kz_lald (hexec : p.tables.exec = Jvm.exec) (hb : c.code = cc) (hK : va_K D cl tys s) (hP : va_P D cl ws H) (q0 t0 : Nat) {cA : ClassId} {n : Nat} {f : Nat → Int64} (ha : ws[q0]? = some (a, .inl (cA, n, .inr (.inl f)))) (ht : tys[t0]? = some (cA, .long)) {k : Nat} (hk : k < n) (hn : n < 2 ^ 31) (hdg : decode cc pc = .ok (.laload, 1))
    (kk : W p l e R s m args below meth c H locs cells slots Q (F0 m (pc + 1) ls (.long (f k) :: rest))) : W p l e R s m args below meth c H locs cells slots Q (F0 m pc ls (.int (nI k) :: .ref a :: rest)) :=
  va_lald hexec hb hK hP q0 t0 ha ht (vp_in_nI hk hn) hdg (by rw [nI_clamp (by omega)]; exact kk)
theorem kz_aldq (hexec : p.tables.exec = Jvm.exec) (hb : c.code = cc) (hK : va_K D cl tys s) (hP : va_P D cl ws H) (q0 t0 : Nat) {cA : ClassId} {C : String} {n : Nat} {f : Nat → Option Nat} (ha : ws[q0]? = some (a, .inl (cA, n, .inr (.inr (.inr (.inr f)))))) (ht : tys[t0]? = some (cA, .object C)) {k : Nat} (hk : k < n) (hn : n < 2 ^ 31) (hdg : decode cc pc = .ok (.aaload, 1))
    (kk : W p l e R s m args below meth c H locs cells slots Q (F0 m (pc + 1) ls (va_rf (f k) :: rest))) : W p l e R s m args below meth c H locs cells slots Q (F0 m pc ls (.int (nI k) :: .ref a :: rest)) :=
  va_aldq hexec hb hK hP q0 t0 ha ht (vp_in_nI hk hn) hdg (by rw [nI_clamp (by omega)]; exact kk)
theorem kz_iast (hexec : p.tables.exec = Jvm.exec) (hb : c.code = cc) (hK : va_K D cl tys s) (hP : va_P D cl ws H) (hD : va_D A ws) (hS : va_S A H0 H locs) (q0 t0 : Nat) {cA : ClassId} {n : Nat} {f : Nat → Int32} (ha : ws[q0]? = some (a, .inl (cA, n, .inl f))) (ht : tys[t0]? = some (cA, .int)) {k : Nat} {x : Int32} (hk : k < n) (hn : n < 2 ^ 31) (hdg : decode cc pc = .ok (.iastore, 1))
    (kk : ∀ (H1 : Heap) (locs1 : List Loc), va_P D cl (ws.set q0 (a, .inl (cA, n, .inl (upd f k x)))) H1 → va_D A (ws.set q0 (a, .inl (cA, n, .inl (upd f k x)))) → va_S A H0 H1 locs1 → W p l e R s m args below meth c H1 locs1 cells slots Q (F0 m (pc + 1) ls rest)) : W p l e R s m args below meth c H locs cells slots Q (F0 m pc ls (.int x :: .int (nI k) :: .ref a :: rest)) :=
  va_iast hexec hb hK hP hD hS q0 t0 ha ht (vp_in_nI hk hn) hdg (by rw [nI_clamp (by omega)]; exact kk)
theorem kz_zast (hexec : p.tables.exec = Jvm.exec) (hb : c.code = cc) (hK : va_K D cl tys s) (hP : va_P D cl ws H) (hD : va_D A ws) (hS : va_S A H0 H locs) (q0 t0 : Nat) {cA : ClassId} {n : Nat} {f : Nat → Int32} (ha : ws[q0]? = some (a, .inl (cA, n, .inl f))) (ht : tys[t0]? = some (cA, .boolean)) {k : Nat} {x : Int32} (hk : k < n) (hn : n < 2 ^ 31) (hx : vp_nar .boolean x = x) (hdg : decode cc pc = .ok (.bastore, 1))
    (kk : ∀ (H1 : Heap) (locs1 : List Loc), va_P D cl (ws.set q0 (a, .inl (cA, n, .inl (upd f k x)))) H1 → va_D A (ws.set q0 (a, .inl (cA, n, .inl (upd f k x)))) → va_S A H0 H1 locs1 → W p l e R s m args below meth c H1 locs1 cells slots Q (F0 m (pc + 1) ls rest)) : W p l e R s m args below meth c H locs cells slots Q (F0 m pc ls (.int x :: .int (nI k) :: .ref a :: rest)) :=
  va_zast hexec hb hK hP hD hS q0 t0 ha ht (vp_in_nI hk hn) hdg (by rw [nI_clamp (by omega), hx]; exact kk)
theorem kz_last (hexec : p.tables.exec = Jvm.exec) (hb : c.code = cc) (hK : va_K D cl tys s) (hP : va_P D cl ws H) (hD : va_D A ws) (hS : va_S A H0 H locs) (q0 t0 : Nat) {cA : ClassId} {n : Nat} {f : Nat → Int64} (ha : ws[q0]? = some (a, .inl (cA, n, .inr (.inl f)))) (ht : tys[t0]? = some (cA, .long)) {k : Nat} {x : Int64} (hk : k < n) (hn : n < 2 ^ 31) (hdg : decode cc pc = .ok (.lastore, 1))
    (kk : ∀ (H1 : Heap) (locs1 : List Loc), va_P D cl (ws.set q0 (a, .inl (cA, n, .inr (.inl (vp_updL f k x))))) H1 → va_D A (ws.set q0 (a, .inl (cA, n, .inr (.inl (vp_updL f k x))))) → va_S A H0 H1 locs1 → W p l e R s m args below meth c H1 locs1 cells slots Q (F0 m (pc + 1) ls rest)) : W p l e R s m args below meth c H locs cells slots Q (F0 m pc ls (.long x :: .int (nI k) :: .ref a :: rest)) :=
  va_last hexec hb hK hP hD hS q0 t0 ha ht (vp_in_nI hk hn) hdg (by rw [nI_clamp (by omega)]; exact kk)
theorem kz_sld {b L : Nat} {xs : Nat → Int32} (hexec : p.tables.exec = Jvm.exec) (hb : c.code = cc) (hX : va_X b L xs s s.heap) (hbl : b < s.heap.size) (hbA : ¬ A b) (hS : va_S A s.heap H locs) {k : Nat} (hk : k < L ∧ L < 2 ^ 31) (hdg : decode cc pc = .ok (.iaload, 1))
    (kk : W p l e R s m args below meth c H locs cells slots Q (F0 m (pc + 1) ls (.int (xs k) :: rest))) : W p l e R s m args below meth c H locs cells slots Q (F0 m pc ls (.int (nI k) :: .ref b :: rest)) :=
  va_sld hexec hb hX hbl hbA hS (vp_in_nI hk.1 hk.2) hdg (by rw [nI_clamp (by omega)]; exact kk)
theorem kz_ci {v : Int32} {b : Array Value} {st0 : List Value} (hr : CallRun p l e R s m args below meth c H locs cells slots 0 0 (F0 m pc ls st0) rest (vp_Si (fun r => r = v) b) (fun _ => False))
    (kk : W p l e R s m args below meth c H locs cells slots Q (F0 m (pc + 3) ls (.int v :: rest))) : W p l e R s m args below meth c H locs cells slots Q (F0 m pc ls st0) :=
  vp_callSi hr (fun r h => by rw [show r = v from h]; exact kk)
theorem kz_cl {v : Int64} {b : Array Value} {st0 : List Value} (hr : CallRun p l e R s m args below meth c H locs cells slots 0 0 (F0 m pc ls st0) rest (vp_Sl (fun r => r = v) b) (fun _ => False))
    (kk : W p l e R s m args below meth c H locs cells slots Q (F0 m (pc + 3) ls (.long v :: rest))) : W p l e R s m args below meth c H locs cells slots Q (F0 m pc ls st0) :=
  vp_callSl hr (fun r h => by rw [show r = v from h]; exact kk)
theorem kz_cq {v : Option Nat} {b : Array Value} {st0 : List Value} (hr : CallRun p l e R s m args below meth c H locs cells slots 0 0 (F0 m pc ls st0) rest (va_Sq (fun r => r = v) b) (fun _ => False))
    (kk : W p l e R s m args below meth c H locs cells slots Q (F0 m (pc + 3) ls (va_rf v :: rest))) : W p l e R s m args below meth c H locs cells slots Q (F0 m pc ls st0) :=
  va_csq hr (fun r h => by rw [show r = v from h]; exact kk)
end KZ
end
section
/-- the unsigned value -/
def un (a : Int64) : Nat := a.toBitVec.toNat
/-- Long.compareUnsigned -/
def kf_cu (a b : Int64) : Int32 := if un a < un b then -1 else if a = b then 0 else 1
theorem un_inj {a b : Int64} (h : un a = un b) : a = b := by
  have h1 : a.toBitVec = b.toBitVec := BitVec.eq_of_toNat_eq h
  exact Int64.toBitVec_inj.mp h1
theorem un_min (a : Int64) : (a + (-9223372036854775808)).toInt = (un a : Int) - 9223372036854775808 := by
  have h2 := a.toBitVec.isLt
  have e1 : (a + (-9223372036854775808 : Int64)).toInt = (a.toBitVec + (-9223372036854775808 : Int64).toBitVec).toInt := rfl
  rw [e1, BitVec.toInt_eq_toNat_bmod, BitVec.toNat_add]
  have e2 : ((-9223372036854775808 : Int64).toBitVec).toNat = 9223372036854775808 := by decide
  rw [e2]
  unfold un
  simp only [Int.bmod_def]
  omega
theorem un_lt {a b : Int64} : (a + (-9223372036854775808)) < (b + (-9223372036854775808)) ↔ un a < un b := by
  rw [Int64.lt_iff_toInt_lt, un_min, un_min]
  omega
theorem un_eq {a b : Int64} : (a + (-9223372036854775808)) = (b + (-9223372036854775808)) ↔ a = b := by
  constructor
  · intro h
    apply un_inj
    have h1 := un_min a
    have h2 := un_min b
    rw [h] at h1
    omega
  · rintro rfl
    rfl

set_option maxHeartbeats 4000000 in
set_option maxRecDepth 100000 in
theorem c_J13_compare_74951 (l : Launch) (a b : Int64) : Met l yJ13_compare_74951 wsJ13_compare_74951 { frames := 0, cells := 0, slots := 0, locals := 0 } (kz_P0 [.long a, .long b]) (vp_Si (fun r => r = if a < b then -1 else if a = b then 0 else 1)) 0 0 (fun _ => False) := by
  refine Met.ofW (cc := cJ13_compare_74951) (maxL := 4) (ret := (some .int)) (by decide) rfl ?_
  intro p e s m args below meth c s₁ B hml hv
  obtain ⟨rfl, -⟩ := hv
  have hx := B.exec
  have hb := B.bytes
  have hr := B.returns
  have hts := atoms_spec (ws := wsJ13_compare_74951) B.pre
  have hown : s.vm.findClass RJ13 = some m.cls := findClass_of_methodNamed B.named
  have hlocks := B.notSynchronized
  have hl := lv_entry ([.long a, .long b]) (n := 4) (Nat.le_of_ble_eq_true rfl)
  rw [lg_entry_eq]
  generalize (lg_sl ([.long a, .long b]) ++ List.replicate (4 - (lg_sl ([.long a, .long b])).length) Slot.unset).toArray = ls at hl ⊢
  have hl : lv_has ls 4 [(0, .long a), (2, .long b)] := hl
  refine lv_lload_n hx hb dJ13_compare_74951_0 rfl (lv_at hl 0 rfl) ?_
  refine lv_lload_n hx hb dJ13_compare_74951_1 rfl (lv_at hl 1 rfl) ?_
  refine W.lcmp hx hb dJ13_compare_74951_2 ?_
  refine lv_if_ge (tgt := 10) hx hb dJ13_compare_74951_3 (by decide) (fun c_1 => ?_) (fun c_1 => ?_)
  · refine lv_lload_n hx hb dJ13_compare_74951_10 rfl (lv_at hl 0 rfl) ?_
    refine lv_lload_n hx hb dJ13_compare_74951_11 rfl (lv_at hl 1 rfl) ?_
    refine W.lcmp hx hb dJ13_compare_74951_12 ?_
    refine lv_if_ne (tgt := 20) hx hb dJ13_compare_74951_13 (by decide) (fun c_2 => ?_) (fun c_2 => ?_)
    · refine lv_iconst (v := 1) hx hb dJ13_compare_74951_20 (by decide) ?_
      exact W.iret (v := 1) hx hb hr (fun t ht hW => ⟨_, rfl, by rw [if_neg ((fun h => absurd ((lg_cmp_ge a b).mp c_1) (Int64.not_le.mpr h))), if_neg (fun h => c_2 ((lg_cmp_eq a b).mpr h))], ht⟩) (fun _ h => nomatch h) dJ13_compare_74951_21
    · refine lv_iconst (v := 0) hx hb dJ13_compare_74951_16 (by decide) ?_
      refine lv_goto (tgt := 21) hx hb dJ13_compare_74951_17 (by decide) ?_
      exact W.iret (v := 0) hx hb hr (fun t ht hW => ⟨_, rfl, by rw [if_neg ((fun h => absurd ((lg_cmp_ge a b).mp c_1) (Int64.not_le.mpr h))), if_pos ((lg_cmp_eq a b).mp c_2)], ht⟩) (fun _ h => nomatch h) dJ13_compare_74951_21
  · refine lv_iconst (v := (-1)) hx hb dJ13_compare_74951_6 (by decide) ?_
    refine lv_goto (tgt := 21) hx hb dJ13_compare_74951_7 (by decide) ?_
    exact W.iret (v := (-1)) hx hb hr (fun t ht hW => ⟨_, rfl, by rw [if_pos ((show a < b from by rcases Decidable.em (a < b) with h | h; exact h; exact absurd ((lg_cmp_ge a b).mpr (Int64.not_lt.mp h)) c_1))], ht⟩) (fun _ h => nomatch h) dJ13_compare_74951_21

set_option maxHeartbeats 4000000 in
set_option maxRecDepth 100000 in
theorem c_J13_compareUnsigned_74951 (l : Launch) (a b : Int64) : Met l yJ13_compareUnsigned_74951 wsJ13_compareUnsigned_74951 { frames := 1, cells := 0, slots := 0, locals := 23 } (kz_P0 [.long a, .long b]) (vp_Si (fun r => r = kf_cu a b)) 0 0 (fun _ => False) := by
  refine Met.ofW (cc := cJ13_compareUnsigned_74951) (maxL := 4) (ret := (some .int)) (by decide) rfl ?_
  intro p e s m args below meth c s₁ B hml hv
  obtain ⟨rfl, -⟩ := hv
  have hx := B.exec
  have hb := B.bytes
  have hr := B.returns
  have hts := atoms_spec (ws := wsJ13_compareUnsigned_74951) B.pre
  have hown : s.vm.findClass RJ13 = some m.cls := findClass_of_methodNamed B.named
  have hlocks := B.notSynchronized
  have hl := lv_entry ([.long a, .long b]) (n := 4) (Nat.le_of_ble_eq_true rfl)
  rw [lg_entry_eq]
  generalize (lg_sl ([.long a, .long b]) ++ List.replicate (4 - (lg_sl ([.long a, .long b])).length) Slot.unset).toArray = ls at hl ⊢
  have hl : lv_has ls 4 [(0, .long a), (2, .long b)] := hl
  refine lv_lload_n hx hb dJ13_compareUnsigned_74951_0 rfl (lv_at hl 0 rfl) ?_
  refine lv_ldc2 (v := (-9223372036854775808)) hx hb hown (hts (.constantLong RJ13 168 (-9223372036854775808)) (by decide +kernel)) dJ13_compareUnsigned_74951_1 ?_
  refine lv_ladd hx hb dJ13_compareUnsigned_74951_4 ?_
  refine lv_lload_n hx hb dJ13_compareUnsigned_74951_5 rfl (lv_at hl 1 rfl) ?_
  refine lv_ldc2 (v := (-9223372036854775808)) hx hb hown (hts (.constantLong RJ13 168 (-9223372036854775808)) (by decide +kernel)) dJ13_compareUnsigned_74951_6 ?_
  refine lv_ladd hx hb dJ13_compareUnsigned_74951_9 ?_
  refine kz_ci (v := if a + (-9223372036854775808) < b + (-9223372036854775808) then -1 else if a + (-9223372036854775808) = b + (-9223372036854775808) then 0 else 1) (va_runS (As := [.long (a + (-9223372036854775808)), .long (b + (-9223372036854775808))]) (rest := []) ⟨hx, hb, hml, hown, hts⟩ (c_J13_compare_74951 l (a + (-9223372036854775808)) (b + (-9223372036854775808))) (va_cwS 2 hts gJ13_compareUnsigned_74951_J13_compare_74951 rfl rfl rfl (by decide +kernel) ⟨Nat.le_of_ble_eq_true rfl, Nat.le_of_ble_eq_true rfl⟩) kz_ps0 rfl rfl hl.1 rfl (lv_room (Nat.le_of_ble_eq_true rfl)) dJ13_compareUnsigned_74951_10 ⟨Nat.zero_le _, Nat.zero_le _⟩).run ?_
  exact W.iret (v := if a + (-9223372036854775808) < b + (-9223372036854775808) then -1 else if a + (-9223372036854775808) = b + (-9223372036854775808) then 0 else 1) hx hb hr (fun t ht hW => ⟨_, rfl, by simp only [kf_cu, un_lt, un_eq], ht⟩) (fun _ h => nomatch h) dJ13_compareUnsigned_74951_13
end
section
theorem kf_nz {k n : Nat} {r : Int32} (h : n ≤ 32) (hr : r = nI n) (h1 : 8 ≤ n ↔ k < 16777216) (h2 : 16 ≤ n ↔ k < 65536) (h3 : 24 ≤ n ↔ k < 256) (h4 : 32 ≤ n ↔ k = 0) : ∃ n : Nat, n ≤ 32 ∧ r = nI n ∧ (8 ≤ n ↔ k < 16777216) ∧ (16 ≤ n ↔ k < 65536) ∧ (24 ≤ n ↔ k < 256) ∧ (32 ≤ n ↔ k = 0) := ⟨n, h, hr, h1, h2, h3, h4⟩
theorem kf_neg {i : Int32} (h : i < 0) : 2147483648 ≤ i.toBitVec.toNat := by
  have h1 : i.toInt < 0 := by
    have := Int32.lt_iff_toInt_lt.mp h
    simpa using this
  have h2 : i.toInt = i.toBitVec.toInt := rfl
  have h3 := i.toBitVec.isLt
  rw [h2, BitVec.toInt_eq_toNat_bmod] at h1
  simp only [Int.bmod_def] at h1
  omega

set_option maxHeartbeats 4000000 in
set_option maxRecDepth 100000 in
theorem c_J6_numberOfLeadingZeros_0f7a4 (l : Launch) (i : Int32) : Met l yJ6_numberOfLeadingZeros_0f7a4 wsJ6_numberOfLeadingZeros_0f7a4 { frames := 0, cells := 0, slots := 0, locals := 0 } (kz_P0 [.int i]) (vp_Si (fun r => ∃ n : Nat, n ≤ 32 ∧ r = nI n ∧ (8 ≤ n ↔ i.toBitVec.toNat < 16777216) ∧ (16 ≤ n ↔ i.toBitVec.toNat < 65536) ∧ (24 ≤ n ↔ i.toBitVec.toNat < 256) ∧ (32 ≤ n ↔ i.toBitVec.toNat = 0))) 0 0 (fun _ => False) := by
  refine Met.ofW (cc := cJ6_numberOfLeadingZeros_0f7a4) (maxL := 2) (ret := (some .int)) (by decide) rfl ?_
  intro p e s m args below meth c s₁ B hml hv
  obtain ⟨rfl, -⟩ := hv
  have hx := B.exec
  have hb := B.bytes
  have hr := B.returns
  have hts := atoms_spec (ws := wsJ6_numberOfLeadingZeros_0f7a4) B.pre
  have hown : s.vm.findClass RJ6 = some m.cls := findClass_of_methodNamed B.named
  have hlocks := B.notSynchronized
  have hl := lv_entry ([.int i]) (n := 2) (Nat.le_of_ble_eq_true rfl)
  rw [lg_entry_eq]
  generalize (lg_sl ([.int i]) ++ List.replicate (2 - (lg_sl ([.int i])).length) Slot.unset).toArray = ls at hl ⊢
  have hl : lv_has ls 2 [(0, .int i)] := hl
  refine lv_iload_n hx hb dJ6_numberOfLeadingZeros_0f7a4_0 rfl (lv_at hl 0 rfl) ?_
  refine lv_if_gt (tgt := 15) hx hb dJ6_numberOfLeadingZeros_0f7a4_1 (by decide) (fun c_1 => ?_) (fun c_1 => ?_)
  · obtain ⟨k, hk, rfl⟩ := nI_of (x := i) (fun h => absurd c_1 (Int32.lt_asymm h))
    have hk0 : 0 < k := by
      rcases Nat.eq_zero_or_pos k with h | h
      · subst h; exact absurd c_1 (by decide)
      · exact h
    refine lv_bipush (v := 31) hx hb dJ6_numberOfLeadingZeros_0f7a4_15 (by decide) ?_
    refine lv_istore_n (lv' := [(1, .int 31), (0, .int (nI k))]) hx hb dJ6_numberOfLeadingZeros_0f7a4_17 rfl hl (by decide) rfl (fun ls hl => ?_)
    refine lv_iload_n hx hb dJ6_numberOfLeadingZeros_0f7a4_18 rfl (lv_at hl 1 rfl) ?_
    refine lv_ldcw (v := 65536) hx hb hown (hts (.constant RJ6 264 65536) (by decide +kernel)) dJ6_numberOfLeadingZeros_0f7a4_19 ?_
    refine lv_icmp_lt (tgt := 33) hx hb dJ6_numberOfLeadingZeros_0f7a4_22 (by decide) (fun c_2 => ?_) (fun c_2 => ?_)
    · have kc_2 : k < 65536 := (nI_ltI (b := 65536) (by omega) (by decide)).mp c_2
      refine lv_iload_n hx hb dJ6_numberOfLeadingZeros_0f7a4_33 rfl (lv_at hl 1 rfl) ?_
      refine lv_sipush (v := 256) hx hb dJ6_numberOfLeadingZeros_0f7a4_34 (by decide) ?_
      refine lv_icmp_lt (tgt := 48) hx hb dJ6_numberOfLeadingZeros_0f7a4_37 (by decide) (fun c_3 => ?_) (fun c_3 => ?_)
      · have kc_3 : k < 256 := (nI_ltI (b := 256) (by omega) (by decide)).mp c_3
        refine lv_iload_n hx hb dJ6_numberOfLeadingZeros_0f7a4_48 rfl (lv_at hl 1 rfl) ?_
        refine lv_bipush (v := 16) hx hb dJ6_numberOfLeadingZeros_0f7a4_49 (by decide) ?_
        refine lv_icmp_lt (tgt := 61) hx hb dJ6_numberOfLeadingZeros_0f7a4_51 (by decide) (fun c_4 => ?_) (fun c_4 => ?_)
        · have kc_4 : k < 16 := (nI_ltI (b := 16) (by omega) (by decide)).mp c_4
          refine lv_iload_n hx hb dJ6_numberOfLeadingZeros_0f7a4_61 rfl (lv_at hl 1 rfl) ?_
          refine lv_iconst (v := 4) hx hb dJ6_numberOfLeadingZeros_0f7a4_62 (by decide) ?_
          refine lv_icmp_lt (tgt := 73) hx hb dJ6_numberOfLeadingZeros_0f7a4_63 (by decide) (fun c_5 => ?_) (fun c_5 => ?_)
          · have kc_5 : k < 4 := (nI_ltI (b := 4) (by omega) (by decide)).mp c_5
            refine lv_iload_n hx hb dJ6_numberOfLeadingZeros_0f7a4_73 rfl (lv_at hl 0 rfl) ?_
            refine lv_iload_n hx hb dJ6_numberOfLeadingZeros_0f7a4_74 rfl (lv_at hl 1 rfl) ?_
            refine lv_iconst (v := 1) hx hb dJ6_numberOfLeadingZeros_0f7a4_75 (by decide) ?_
            refine lv_iushr hx hb dJ6_numberOfLeadingZeros_0f7a4_76 rfl ?_
            refine kz_asi (y := nI (k / 2 ^ 1)) (pk_ushrN (n := k) (by omega) 1 1 (by decide)) ?_
            refine lv_isub hx hb dJ6_numberOfLeadingZeros_0f7a4_77 ?_
            exact W.iret (v := 31 - (nI (k / 2 ^ 1))) hx hb hr (fun t ht hW => ⟨_, rfl, by rw [pk_tn (by omega)]; exact kf_nz (n := 31 - (k / 2 ^ 1)) (by omega) (pk_sub (a := 31) (b := (k / 2 ^ 1)) (by omega)) (by omega) (by omega) (by omega) (by omega), ht⟩) (fun _ h => nomatch h) dJ6_numberOfLeadingZeros_0f7a4_78
          · have kc_5 : ¬ k < 4 := fun h => c_5 ((nI_ltI (b := 4) (by omega) (by decide)).mpr h)
            refine lv_iinc (v := nI 29) (lv' := [(1, .int (nI 29)), (0, .int (nI k))]) hx hb dJ6_numberOfLeadingZeros_0f7a4_66 hl (k := 0) rfl (by decide) (by decide) rfl (fun ls hl => ?_)
            refine lv_iload_n hx hb dJ6_numberOfLeadingZeros_0f7a4_69 rfl (lv_at hl 1 rfl) ?_
            refine lv_iconst (v := 2) hx hb dJ6_numberOfLeadingZeros_0f7a4_70 (by decide) ?_
            refine lv_iushr hx hb dJ6_numberOfLeadingZeros_0f7a4_71 rfl ?_
            refine kz_asi (y := nI (k / 2 ^ 2)) (pk_ushrN (n := k) (by omega) 2 2 (by decide)) ?_
            refine lv_istore_n (lv' := [(0, .int (nI (k / 2 ^ 2))), (1, .int (nI 29))]) hx hb dJ6_numberOfLeadingZeros_0f7a4_72 rfl hl (by decide) rfl (fun ls hl => ?_)
            refine lv_iload_n hx hb dJ6_numberOfLeadingZeros_0f7a4_73 rfl (lv_at hl 1 rfl) ?_
            refine lv_iload_n hx hb dJ6_numberOfLeadingZeros_0f7a4_74 rfl (lv_at hl 0 rfl) ?_
            refine lv_iconst (v := 1) hx hb dJ6_numberOfLeadingZeros_0f7a4_75 (by decide) ?_
            refine lv_iushr hx hb dJ6_numberOfLeadingZeros_0f7a4_76 rfl ?_
            refine kz_asi (y := nI ((k / 2 ^ 2) / 2 ^ 1)) (pk_ushrN (n := (k / 2 ^ 2)) (by omega) 1 1 (by decide)) ?_
            refine lv_isub hx hb dJ6_numberOfLeadingZeros_0f7a4_77 ?_
            exact W.iret (v := (nI 29) - (nI ((k / 2 ^ 2) / 2 ^ 1))) hx hb hr (fun t ht hW => ⟨_, rfl, by rw [pk_tn (by omega)]; exact kf_nz (n := 29 - ((k / 2 ^ 2) / 2 ^ 1)) (by omega) (pk_sub (a := 29) (b := ((k / 2 ^ 2) / 2 ^ 1)) (by omega)) (by omega) (by omega) (by omega) (by omega), ht⟩) (fun _ h => nomatch h) dJ6_numberOfLeadingZeros_0f7a4_78
        · have kc_4 : ¬ k < 16 := fun h => c_4 ((nI_ltI (b := 16) (by omega) (by decide)).mpr h)
          refine lv_iinc (v := nI 27) (lv' := [(1, .int (nI 27)), (0, .int (nI k))]) hx hb dJ6_numberOfLeadingZeros_0f7a4_54 hl (k := 0) rfl (by decide) (by decide) rfl (fun ls hl => ?_)
          refine lv_iload_n hx hb dJ6_numberOfLeadingZeros_0f7a4_57 rfl (lv_at hl 1 rfl) ?_
          refine lv_iconst (v := 4) hx hb dJ6_numberOfLeadingZeros_0f7a4_58 (by decide) ?_
          refine lv_iushr hx hb dJ6_numberOfLeadingZeros_0f7a4_59 rfl ?_
          refine kz_asi (y := nI (k / 2 ^ 4)) (pk_ushrN (n := k) (by omega) 4 4 (by decide)) ?_
          refine lv_istore_n (lv' := [(0, .int (nI (k / 2 ^ 4))), (1, .int (nI 27))]) hx hb dJ6_numberOfLeadingZeros_0f7a4_60 rfl hl (by decide) rfl (fun ls hl => ?_)
          refine lv_iload_n hx hb dJ6_numberOfLeadingZeros_0f7a4_61 rfl (lv_at hl 0 rfl) ?_
          refine lv_iconst (v := 4) hx hb dJ6_numberOfLeadingZeros_0f7a4_62 (by decide) ?_
          refine lv_icmp_lt (tgt := 73) hx hb dJ6_numberOfLeadingZeros_0f7a4_63 (by decide) (fun c_6 => ?_) (fun c_6 => ?_)
          · have kc_6 : (k / 2 ^ 4) < 4 := (nI_ltI (b := 4) (by omega) (by decide)).mp c_6
            refine lv_iload_n hx hb dJ6_numberOfLeadingZeros_0f7a4_73 rfl (lv_at hl 1 rfl) ?_
            refine lv_iload_n hx hb dJ6_numberOfLeadingZeros_0f7a4_74 rfl (lv_at hl 0 rfl) ?_
            refine lv_iconst (v := 1) hx hb dJ6_numberOfLeadingZeros_0f7a4_75 (by decide) ?_
            refine lv_iushr hx hb dJ6_numberOfLeadingZeros_0f7a4_76 rfl ?_
            refine kz_asi (y := nI ((k / 2 ^ 4) / 2 ^ 1)) (pk_ushrN (n := (k / 2 ^ 4)) (by omega) 1 1 (by decide)) ?_
            refine lv_isub hx hb dJ6_numberOfLeadingZeros_0f7a4_77 ?_
            exact W.iret (v := (nI 27) - (nI ((k / 2 ^ 4) / 2 ^ 1))) hx hb hr (fun t ht hW => ⟨_, rfl, by rw [pk_tn (by omega)]; exact kf_nz (n := 27 - ((k / 2 ^ 4) / 2 ^ 1)) (by omega) (pk_sub (a := 27) (b := ((k / 2 ^ 4) / 2 ^ 1)) (by omega)) (by omega) (by omega) (by omega) (by omega), ht⟩) (fun _ h => nomatch h) dJ6_numberOfLeadingZeros_0f7a4_78
          · have kc_6 : ¬ (k / 2 ^ 4) < 4 := fun h => c_6 ((nI_ltI (b := 4) (by omega) (by decide)).mpr h)
            refine lv_iinc (v := nI 25) (lv' := [(1, .int (nI 25)), (0, .int (nI (k / 2 ^ 4)))]) hx hb dJ6_numberOfLeadingZeros_0f7a4_66 hl (k := 1) rfl (by decide) (by decide) rfl (fun ls hl => ?_)
            refine lv_iload_n hx hb dJ6_numberOfLeadingZeros_0f7a4_69 rfl (lv_at hl 1 rfl) ?_
            refine lv_iconst (v := 2) hx hb dJ6_numberOfLeadingZeros_0f7a4_70 (by decide) ?_
            refine lv_iushr hx hb dJ6_numberOfLeadingZeros_0f7a4_71 rfl ?_
            refine kz_asi (y := nI ((k / 2 ^ 4) / 2 ^ 2)) (pk_ushrN (n := (k / 2 ^ 4)) (by omega) 2 2 (by decide)) ?_
            refine lv_istore_n (lv' := [(0, .int (nI ((k / 2 ^ 4) / 2 ^ 2))), (1, .int (nI 25))]) hx hb dJ6_numberOfLeadingZeros_0f7a4_72 rfl hl (by decide) rfl (fun ls hl => ?_)
            refine lv_iload_n hx hb dJ6_numberOfLeadingZeros_0f7a4_73 rfl (lv_at hl 1 rfl) ?_
            refine lv_iload_n hx hb dJ6_numberOfLeadingZeros_0f7a4_74 rfl (lv_at hl 0 rfl) ?_
            refine lv_iconst (v := 1) hx hb dJ6_numberOfLeadingZeros_0f7a4_75 (by decide) ?_
            refine lv_iushr hx hb dJ6_numberOfLeadingZeros_0f7a4_76 rfl ?_
            refine kz_asi (y := nI (((k / 2 ^ 4) / 2 ^ 2) / 2 ^ 1)) (pk_ushrN (n := ((k / 2 ^ 4) / 2 ^ 2)) (by omega) 1 1 (by decide)) ?_
            refine lv_isub hx hb dJ6_numberOfLeadingZeros_0f7a4_77 ?_
            exact W.iret (v := (nI 25) - (nI (((k / 2 ^ 4) / 2 ^ 2) / 2 ^ 1))) hx hb hr (fun t ht hW => ⟨_, rfl, by rw [pk_tn (by omega)]; exact kf_nz (n := 25 - (((k / 2 ^ 4) / 2 ^ 2) / 2 ^ 1)) (by omega) (pk_sub (a := 25) (b := (((k / 2 ^ 4) / 2 ^ 2) / 2 ^ 1)) (by omega)) (by omega) (by omega) (by omega) (by omega), ht⟩) (fun _ h => nomatch h) dJ6_numberOfLeadingZeros_0f7a4_78
      · have kc_3 : ¬ k < 256 := fun h => c_3 ((nI_ltI (b := 256) (by omega) (by decide)).mpr h)
        refine lv_iinc (v := nI 23) (lv' := [(1, .int (nI 23)), (0, .int (nI k))]) hx hb dJ6_numberOfLeadingZeros_0f7a4_40 hl (k := 0) rfl (by decide) (by decide) rfl (fun ls hl => ?_)
        refine lv_iload_n hx hb dJ6_numberOfLeadingZeros_0f7a4_43 rfl (lv_at hl 1 rfl) ?_
        refine lv_bipush (v := 8) hx hb dJ6_numberOfLeadingZeros_0f7a4_44 (by decide) ?_
        refine lv_iushr hx hb dJ6_numberOfLeadingZeros_0f7a4_46 rfl ?_
        refine kz_asi (y := nI (k / 2 ^ 8)) (pk_ushrN (n := k) (by omega) 8 8 (by decide)) ?_
        refine lv_istore_n (lv' := [(0, .int (nI (k / 2 ^ 8))), (1, .int (nI 23))]) hx hb dJ6_numberOfLeadingZeros_0f7a4_47 rfl hl (by decide) rfl (fun ls hl => ?_)
        refine lv_iload_n hx hb dJ6_numberOfLeadingZeros_0f7a4_48 rfl (lv_at hl 0 rfl) ?_
        refine lv_bipush (v := 16) hx hb dJ6_numberOfLeadingZeros_0f7a4_49 (by decide) ?_
        refine lv_icmp_lt (tgt := 61) hx hb dJ6_numberOfLeadingZeros_0f7a4_51 (by decide) (fun c_7 => ?_) (fun c_7 => ?_)
        · have kc_7 : (k / 2 ^ 8) < 16 := (nI_ltI (b := 16) (by omega) (by decide)).mp c_7
          refine lv_iload_n hx hb dJ6_numberOfLeadingZeros_0f7a4_61 rfl (lv_at hl 0 rfl) ?_
          refine lv_iconst (v := 4) hx hb dJ6_numberOfLeadingZeros_0f7a4_62 (by decide) ?_
          refine lv_icmp_lt (tgt := 73) hx hb dJ6_numberOfLeadingZeros_0f7a4_63 (by decide) (fun c_8 => ?_) (fun c_8 => ?_)
          · have kc_8 : (k / 2 ^ 8) < 4 := (nI_ltI (b := 4) (by omega) (by decide)).mp c_8
            refine lv_iload_n hx hb dJ6_numberOfLeadingZeros_0f7a4_73 rfl (lv_at hl 1 rfl) ?_
            refine lv_iload_n hx hb dJ6_numberOfLeadingZeros_0f7a4_74 rfl (lv_at hl 0 rfl) ?_
            refine lv_iconst (v := 1) hx hb dJ6_numberOfLeadingZeros_0f7a4_75 (by decide) ?_
            refine lv_iushr hx hb dJ6_numberOfLeadingZeros_0f7a4_76 rfl ?_
            refine kz_asi (y := nI ((k / 2 ^ 8) / 2 ^ 1)) (pk_ushrN (n := (k / 2 ^ 8)) (by omega) 1 1 (by decide)) ?_
            refine lv_isub hx hb dJ6_numberOfLeadingZeros_0f7a4_77 ?_
            exact W.iret (v := (nI 23) - (nI ((k / 2 ^ 8) / 2 ^ 1))) hx hb hr (fun t ht hW => ⟨_, rfl, by rw [pk_tn (by omega)]; exact kf_nz (n := 23 - ((k / 2 ^ 8) / 2 ^ 1)) (by omega) (pk_sub (a := 23) (b := ((k / 2 ^ 8) / 2 ^ 1)) (by omega)) (by omega) (by omega) (by omega) (by omega), ht⟩) (fun _ h => nomatch h) dJ6_numberOfLeadingZeros_0f7a4_78
          · have kc_8 : ¬ (k / 2 ^ 8) < 4 := fun h => c_8 ((nI_ltI (b := 4) (by omega) (by decide)).mpr h)
            refine lv_iinc (v := nI 21) (lv' := [(1, .int (nI 21)), (0, .int (nI (k / 2 ^ 8)))]) hx hb dJ6_numberOfLeadingZeros_0f7a4_66 hl (k := 1) rfl (by decide) (by decide) rfl (fun ls hl => ?_)
            refine lv_iload_n hx hb dJ6_numberOfLeadingZeros_0f7a4_69 rfl (lv_at hl 1 rfl) ?_
            refine lv_iconst (v := 2) hx hb dJ6_numberOfLeadingZeros_0f7a4_70 (by decide) ?_
            refine lv_iushr hx hb dJ6_numberOfLeadingZeros_0f7a4_71 rfl ?_
            refine kz_asi (y := nI ((k / 2 ^ 8) / 2 ^ 2)) (pk_ushrN (n := (k / 2 ^ 8)) (by omega) 2 2 (by decide)) ?_
            refine lv_istore_n (lv' := [(0, .int (nI ((k / 2 ^ 8) / 2 ^ 2))), (1, .int (nI 21))]) hx hb dJ6_numberOfLeadingZeros_0f7a4_72 rfl hl (by decide) rfl (fun ls hl => ?_)
            refine lv_iload_n hx hb dJ6_numberOfLeadingZeros_0f7a4_73 rfl (lv_at hl 1 rfl) ?_
            refine lv_iload_n hx hb dJ6_numberOfLeadingZeros_0f7a4_74 rfl (lv_at hl 0 rfl) ?_
            refine lv_iconst (v := 1) hx hb dJ6_numberOfLeadingZeros_0f7a4_75 (by decide) ?_
            refine lv_iushr hx hb dJ6_numberOfLeadingZeros_0f7a4_76 rfl ?_
            refine kz_asi (y := nI (((k / 2 ^ 8) / 2 ^ 2) / 2 ^ 1)) (pk_ushrN (n := ((k / 2 ^ 8) / 2 ^ 2)) (by omega) 1 1 (by decide)) ?_
            refine lv_isub hx hb dJ6_numberOfLeadingZeros_0f7a4_77 ?_
            exact W.iret (v := (nI 21) - (nI (((k / 2 ^ 8) / 2 ^ 2) / 2 ^ 1))) hx hb hr (fun t ht hW => ⟨_, rfl, by rw [pk_tn (by omega)]; exact kf_nz (n := 21 - (((k / 2 ^ 8) / 2 ^ 2) / 2 ^ 1)) (by omega) (pk_sub (a := 21) (b := (((k / 2 ^ 8) / 2 ^ 2) / 2 ^ 1)) (by omega)) (by omega) (by omega) (by omega) (by omega), ht⟩) (fun _ h => nomatch h) dJ6_numberOfLeadingZeros_0f7a4_78
        · have kc_7 : ¬ (k / 2 ^ 8) < 16 := fun h => c_7 ((nI_ltI (b := 16) (by omega) (by decide)).mpr h)
          refine lv_iinc (v := nI 19) (lv' := [(1, .int (nI 19)), (0, .int (nI (k / 2 ^ 8)))]) hx hb dJ6_numberOfLeadingZeros_0f7a4_54 hl (k := 1) rfl (by decide) (by decide) rfl (fun ls hl => ?_)
          refine lv_iload_n hx hb dJ6_numberOfLeadingZeros_0f7a4_57 rfl (lv_at hl 1 rfl) ?_
          refine lv_iconst (v := 4) hx hb dJ6_numberOfLeadingZeros_0f7a4_58 (by decide) ?_
          refine lv_iushr hx hb dJ6_numberOfLeadingZeros_0f7a4_59 rfl ?_
          refine kz_asi (y := nI ((k / 2 ^ 8) / 2 ^ 4)) (pk_ushrN (n := (k / 2 ^ 8)) (by omega) 4 4 (by decide)) ?_
          refine lv_istore_n (lv' := [(0, .int (nI ((k / 2 ^ 8) / 2 ^ 4))), (1, .int (nI 19))]) hx hb dJ6_numberOfLeadingZeros_0f7a4_60 rfl hl (by decide) rfl (fun ls hl => ?_)
          refine lv_iload_n hx hb dJ6_numberOfLeadingZeros_0f7a4_61 rfl (lv_at hl 0 rfl) ?_
          refine lv_iconst (v := 4) hx hb dJ6_numberOfLeadingZeros_0f7a4_62 (by decide) ?_
          refine lv_icmp_lt (tgt := 73) hx hb dJ6_numberOfLeadingZeros_0f7a4_63 (by decide) (fun c_9 => ?_) (fun c_9 => ?_)
          · have kc_9 : ((k / 2 ^ 8) / 2 ^ 4) < 4 := (nI_ltI (b := 4) (by omega) (by decide)).mp c_9
            refine lv_iload_n hx hb dJ6_numberOfLeadingZeros_0f7a4_73 rfl (lv_at hl 1 rfl) ?_
            refine lv_iload_n hx hb dJ6_numberOfLeadingZeros_0f7a4_74 rfl (lv_at hl 0 rfl) ?_
            refine lv_iconst (v := 1) hx hb dJ6_numberOfLeadingZeros_0f7a4_75 (by decide) ?_
            refine lv_iushr hx hb dJ6_numberOfLeadingZeros_0f7a4_76 rfl ?_
            refine kz_asi (y := nI (((k / 2 ^ 8) / 2 ^ 4) / 2 ^ 1)) (pk_ushrN (n := ((k / 2 ^ 8) / 2 ^ 4)) (by omega) 1 1 (by decide)) ?_
            refine lv_isub hx hb dJ6_numberOfLeadingZeros_0f7a4_77 ?_
            exact W.iret (v := (nI 19) - (nI (((k / 2 ^ 8) / 2 ^ 4) / 2 ^ 1))) hx hb hr (fun t ht hW => ⟨_, rfl, by rw [pk_tn (by omega)]; exact kf_nz (n := 19 - (((k / 2 ^ 8) / 2 ^ 4) / 2 ^ 1)) (by omega) (pk_sub (a := 19) (b := (((k / 2 ^ 8) / 2 ^ 4) / 2 ^ 1)) (by omega)) (by omega) (by omega) (by omega) (by omega), ht⟩) (fun _ h => nomatch h) dJ6_numberOfLeadingZeros_0f7a4_78
          · have kc_9 : ¬ ((k / 2 ^ 8) / 2 ^ 4) < 4 := fun h => c_9 ((nI_ltI (b := 4) (by omega) (by decide)).mpr h)
            refine lv_iinc (v := nI 17) (lv' := [(1, .int (nI 17)), (0, .int (nI ((k / 2 ^ 8) / 2 ^ 4)))]) hx hb dJ6_numberOfLeadingZeros_0f7a4_66 hl (k := 1) rfl (by decide) (by decide) rfl (fun ls hl => ?_)
            refine lv_iload_n hx hb dJ6_numberOfLeadingZeros_0f7a4_69 rfl (lv_at hl 1 rfl) ?_
            refine lv_iconst (v := 2) hx hb dJ6_numberOfLeadingZeros_0f7a4_70 (by decide) ?_
            refine lv_iushr hx hb dJ6_numberOfLeadingZeros_0f7a4_71 rfl ?_
            refine kz_asi (y := nI (((k / 2 ^ 8) / 2 ^ 4) / 2 ^ 2)) (pk_ushrN (n := ((k / 2 ^ 8) / 2 ^ 4)) (by omega) 2 2 (by decide)) ?_
            refine lv_istore_n (lv' := [(0, .int (nI (((k / 2 ^ 8) / 2 ^ 4) / 2 ^ 2))), (1, .int (nI 17))]) hx hb dJ6_numberOfLeadingZeros_0f7a4_72 rfl hl (by decide) rfl (fun ls hl => ?_)
            refine lv_iload_n hx hb dJ6_numberOfLeadingZeros_0f7a4_73 rfl (lv_at hl 1 rfl) ?_
            refine lv_iload_n hx hb dJ6_numberOfLeadingZeros_0f7a4_74 rfl (lv_at hl 0 rfl) ?_
            refine lv_iconst (v := 1) hx hb dJ6_numberOfLeadingZeros_0f7a4_75 (by decide) ?_
            refine lv_iushr hx hb dJ6_numberOfLeadingZeros_0f7a4_76 rfl ?_
            refine kz_asi (y := nI ((((k / 2 ^ 8) / 2 ^ 4) / 2 ^ 2) / 2 ^ 1)) (pk_ushrN (n := (((k / 2 ^ 8) / 2 ^ 4) / 2 ^ 2)) (by omega) 1 1 (by decide)) ?_
            refine lv_isub hx hb dJ6_numberOfLeadingZeros_0f7a4_77 ?_
            exact W.iret (v := (nI 17) - (nI ((((k / 2 ^ 8) / 2 ^ 4) / 2 ^ 2) / 2 ^ 1))) hx hb hr (fun t ht hW => ⟨_, rfl, by rw [pk_tn (by omega)]; exact kf_nz (n := 17 - ((((k / 2 ^ 8) / 2 ^ 4) / 2 ^ 2) / 2 ^ 1)) (by omega) (pk_sub (a := 17) (b := ((((k / 2 ^ 8) / 2 ^ 4) / 2 ^ 2) / 2 ^ 1)) (by omega)) (by omega) (by omega) (by omega) (by omega), ht⟩) (fun _ h => nomatch h) dJ6_numberOfLeadingZeros_0f7a4_78
    · have kc_2 : ¬ k < 65536 := fun h => c_2 ((nI_ltI (b := 65536) (by omega) (by decide)).mpr h)
      refine lv_iinc (v := nI 15) (lv' := [(1, .int (nI 15)), (0, .int (nI k))]) hx hb dJ6_numberOfLeadingZeros_0f7a4_25 hl (k := 0) rfl (by decide) (by decide) rfl (fun ls hl => ?_)
      refine lv_iload_n hx hb dJ6_numberOfLeadingZeros_0f7a4_28 rfl (lv_at hl 1 rfl) ?_
      refine lv_bipush (v := 16) hx hb dJ6_numberOfLeadingZeros_0f7a4_29 (by decide) ?_
      refine lv_iushr hx hb dJ6_numberOfLeadingZeros_0f7a4_31 rfl ?_
      refine kz_asi (y := nI (k / 2 ^ 16)) (pk_ushrN (n := k) (by omega) 16 16 (by decide)) ?_
      refine lv_istore_n (lv' := [(0, .int (nI (k / 2 ^ 16))), (1, .int (nI 15))]) hx hb dJ6_numberOfLeadingZeros_0f7a4_32 rfl hl (by decide) rfl (fun ls hl => ?_)
      refine lv_iload_n hx hb dJ6_numberOfLeadingZeros_0f7a4_33 rfl (lv_at hl 0 rfl) ?_
      refine lv_sipush (v := 256) hx hb dJ6_numberOfLeadingZeros_0f7a4_34 (by decide) ?_
      refine lv_icmp_lt (tgt := 48) hx hb dJ6_numberOfLeadingZeros_0f7a4_37 (by decide) (fun c_10 => ?_) (fun c_10 => ?_)
      · have kc_10 : (k / 2 ^ 16) < 256 := (nI_ltI (b := 256) (by omega) (by decide)).mp c_10
        refine lv_iload_n hx hb dJ6_numberOfLeadingZeros_0f7a4_48 rfl (lv_at hl 0 rfl) ?_
        refine lv_bipush (v := 16) hx hb dJ6_numberOfLeadingZeros_0f7a4_49 (by decide) ?_
        refine lv_icmp_lt (tgt := 61) hx hb dJ6_numberOfLeadingZeros_0f7a4_51 (by decide) (fun c_11 => ?_) (fun c_11 => ?_)
        · have kc_11 : (k / 2 ^ 16) < 16 := (nI_ltI (b := 16) (by omega) (by decide)).mp c_11
          refine lv_iload_n hx hb dJ6_numberOfLeadingZeros_0f7a4_61 rfl (lv_at hl 0 rfl) ?_
          refine lv_iconst (v := 4) hx hb dJ6_numberOfLeadingZeros_0f7a4_62 (by decide) ?_
          refine lv_icmp_lt (tgt := 73) hx hb dJ6_numberOfLeadingZeros_0f7a4_63 (by decide) (fun c_12 => ?_) (fun c_12 => ?_)
          · have kc_12 : (k / 2 ^ 16) < 4 := (nI_ltI (b := 4) (by omega) (by decide)).mp c_12
            refine lv_iload_n hx hb dJ6_numberOfLeadingZeros_0f7a4_73 rfl (lv_at hl 1 rfl) ?_
            refine lv_iload_n hx hb dJ6_numberOfLeadingZeros_0f7a4_74 rfl (lv_at hl 0 rfl) ?_
            refine lv_iconst (v := 1) hx hb dJ6_numberOfLeadingZeros_0f7a4_75 (by decide) ?_
            refine lv_iushr hx hb dJ6_numberOfLeadingZeros_0f7a4_76 rfl ?_
            refine kz_asi (y := nI ((k / 2 ^ 16) / 2 ^ 1)) (pk_ushrN (n := (k / 2 ^ 16)) (by omega) 1 1 (by decide)) ?_
            refine lv_isub hx hb dJ6_numberOfLeadingZeros_0f7a4_77 ?_
            exact W.iret (v := (nI 15) - (nI ((k / 2 ^ 16) / 2 ^ 1))) hx hb hr (fun t ht hW => ⟨_, rfl, by rw [pk_tn (by omega)]; exact kf_nz (n := 15 - ((k / 2 ^ 16) / 2 ^ 1)) (by omega) (pk_sub (a := 15) (b := ((k / 2 ^ 16) / 2 ^ 1)) (by omega)) (by omega) (by omega) (by omega) (by omega), ht⟩) (fun _ h => nomatch h) dJ6_numberOfLeadingZeros_0f7a4_78
          · have kc_12 : ¬ (k / 2 ^ 16) < 4 := fun h => c_12 ((nI_ltI (b := 4) (by omega) (by decide)).mpr h)
            refine lv_iinc (v := nI 13) (lv' := [(1, .int (nI 13)), (0, .int (nI (k / 2 ^ 16)))]) hx hb dJ6_numberOfLeadingZeros_0f7a4_66 hl (k := 1) rfl (by decide) (by decide) rfl (fun ls hl => ?_)
            refine lv_iload_n hx hb dJ6_numberOfLeadingZeros_0f7a4_69 rfl (lv_at hl 1 rfl) ?_
            refine lv_iconst (v := 2) hx hb dJ6_numberOfLeadingZeros_0f7a4_70 (by decide) ?_
            refine lv_iushr hx hb dJ6_numberOfLeadingZeros_0f7a4_71 rfl ?_
            refine kz_asi (y := nI ((k / 2 ^ 16) / 2 ^ 2)) (pk_ushrN (n := (k / 2 ^ 16)) (by omega) 2 2 (by decide)) ?_
            refine lv_istore_n (lv' := [(0, .int (nI ((k / 2 ^ 16) / 2 ^ 2))), (1, .int (nI 13))]) hx hb dJ6_numberOfLeadingZeros_0f7a4_72 rfl hl (by decide) rfl (fun ls hl => ?_)
            refine lv_iload_n hx hb dJ6_numberOfLeadingZeros_0f7a4_73 rfl (lv_at hl 1 rfl) ?_
            refine lv_iload_n hx hb dJ6_numberOfLeadingZeros_0f7a4_74 rfl (lv_at hl 0 rfl) ?_
            refine lv_iconst (v := 1) hx hb dJ6_numberOfLeadingZeros_0f7a4_75 (by decide) ?_
            refine lv_iushr hx hb dJ6_numberOfLeadingZeros_0f7a4_76 rfl ?_
            refine kz_asi (y := nI (((k / 2 ^ 16) / 2 ^ 2) / 2 ^ 1)) (pk_ushrN (n := ((k / 2 ^ 16) / 2 ^ 2)) (by omega) 1 1 (by decide)) ?_
            refine lv_isub hx hb dJ6_numberOfLeadingZeros_0f7a4_77 ?_
            exact W.iret (v := (nI 13) - (nI (((k / 2 ^ 16) / 2 ^ 2) / 2 ^ 1))) hx hb hr (fun t ht hW => ⟨_, rfl, by rw [pk_tn (by omega)]; exact kf_nz (n := 13 - (((k / 2 ^ 16) / 2 ^ 2) / 2 ^ 1)) (by omega) (pk_sub (a := 13) (b := (((k / 2 ^ 16) / 2 ^ 2) / 2 ^ 1)) (by omega)) (by omega) (by omega) (by omega) (by omega), ht⟩) (fun _ h => nomatch h) dJ6_numberOfLeadingZeros_0f7a4_78
        · have kc_11 : ¬ (k / 2 ^ 16) < 16 := fun h => c_11 ((nI_ltI (b := 16) (by omega) (by decide)).mpr h)
          refine lv_iinc (v := nI 11) (lv' := [(1, .int (nI 11)), (0, .int (nI (k / 2 ^ 16)))]) hx hb dJ6_numberOfLeadingZeros_0f7a4_54 hl (k := 1) rfl (by decide) (by decide) rfl (fun ls hl => ?_)
          refine lv_iload_n hx hb dJ6_numberOfLeadingZeros_0f7a4_57 rfl (lv_at hl 1 rfl) ?_
          refine lv_iconst (v := 4) hx hb dJ6_numberOfLeadingZeros_0f7a4_58 (by decide) ?_
          refine lv_iushr hx hb dJ6_numberOfLeadingZeros_0f7a4_59 rfl ?_
          refine kz_asi (y := nI ((k / 2 ^ 16) / 2 ^ 4)) (pk_ushrN (n := (k / 2 ^ 16)) (by omega) 4 4 (by decide)) ?_
          refine lv_istore_n (lv' := [(0, .int (nI ((k / 2 ^ 16) / 2 ^ 4))), (1, .int (nI 11))]) hx hb dJ6_numberOfLeadingZeros_0f7a4_60 rfl hl (by decide) rfl (fun ls hl => ?_)
          refine lv_iload_n hx hb dJ6_numberOfLeadingZeros_0f7a4_61 rfl (lv_at hl 0 rfl) ?_
          refine lv_iconst (v := 4) hx hb dJ6_numberOfLeadingZeros_0f7a4_62 (by decide) ?_
          refine lv_icmp_lt (tgt := 73) hx hb dJ6_numberOfLeadingZeros_0f7a4_63 (by decide) (fun c_13 => ?_) (fun c_13 => ?_)
          · have kc_13 : ((k / 2 ^ 16) / 2 ^ 4) < 4 := (nI_ltI (b := 4) (by omega) (by decide)).mp c_13
            refine lv_iload_n hx hb dJ6_numberOfLeadingZeros_0f7a4_73 rfl (lv_at hl 1 rfl) ?_
            refine lv_iload_n hx hb dJ6_numberOfLeadingZeros_0f7a4_74 rfl (lv_at hl 0 rfl) ?_
            refine lv_iconst (v := 1) hx hb dJ6_numberOfLeadingZeros_0f7a4_75 (by decide) ?_
            refine lv_iushr hx hb dJ6_numberOfLeadingZeros_0f7a4_76 rfl ?_
            refine kz_asi (y := nI (((k / 2 ^ 16) / 2 ^ 4) / 2 ^ 1)) (pk_ushrN (n := ((k / 2 ^ 16) / 2 ^ 4)) (by omega) 1 1 (by decide)) ?_
            refine lv_isub hx hb dJ6_numberOfLeadingZeros_0f7a4_77 ?_
            exact W.iret (v := (nI 11) - (nI (((k / 2 ^ 16) / 2 ^ 4) / 2 ^ 1))) hx hb hr (fun t ht hW => ⟨_, rfl, by rw [pk_tn (by omega)]; exact kf_nz (n := 11 - (((k / 2 ^ 16) / 2 ^ 4) / 2 ^ 1)) (by omega) (pk_sub (a := 11) (b := (((k / 2 ^ 16) / 2 ^ 4) / 2 ^ 1)) (by omega)) (by omega) (by omega) (by omega) (by omega), ht⟩) (fun _ h => nomatch h) dJ6_numberOfLeadingZeros_0f7a4_78
          · have kc_13 : ¬ ((k / 2 ^ 16) / 2 ^ 4) < 4 := fun h => c_13 ((nI_ltI (b := 4) (by omega) (by decide)).mpr h)
            refine lv_iinc (v := nI 9) (lv' := [(1, .int (nI 9)), (0, .int (nI ((k / 2 ^ 16) / 2 ^ 4)))]) hx hb dJ6_numberOfLeadingZeros_0f7a4_66 hl (k := 1) rfl (by decide) (by decide) rfl (fun ls hl => ?_)
            refine lv_iload_n hx hb dJ6_numberOfLeadingZeros_0f7a4_69 rfl (lv_at hl 1 rfl) ?_
            refine lv_iconst (v := 2) hx hb dJ6_numberOfLeadingZeros_0f7a4_70 (by decide) ?_
            refine lv_iushr hx hb dJ6_numberOfLeadingZeros_0f7a4_71 rfl ?_
            refine kz_asi (y := nI (((k / 2 ^ 16) / 2 ^ 4) / 2 ^ 2)) (pk_ushrN (n := ((k / 2 ^ 16) / 2 ^ 4)) (by omega) 2 2 (by decide)) ?_
            refine lv_istore_n (lv' := [(0, .int (nI (((k / 2 ^ 16) / 2 ^ 4) / 2 ^ 2))), (1, .int (nI 9))]) hx hb dJ6_numberOfLeadingZeros_0f7a4_72 rfl hl (by decide) rfl (fun ls hl => ?_)
            refine lv_iload_n hx hb dJ6_numberOfLeadingZeros_0f7a4_73 rfl (lv_at hl 1 rfl) ?_
            refine lv_iload_n hx hb dJ6_numberOfLeadingZeros_0f7a4_74 rfl (lv_at hl 0 rfl) ?_
            refine lv_iconst (v := 1) hx hb dJ6_numberOfLeadingZeros_0f7a4_75 (by decide) ?_
            refine lv_iushr hx hb dJ6_numberOfLeadingZeros_0f7a4_76 rfl ?_
            refine kz_asi (y := nI ((((k / 2 ^ 16) / 2 ^ 4) / 2 ^ 2) / 2 ^ 1)) (pk_ushrN (n := (((k / 2 ^ 16) / 2 ^ 4) / 2 ^ 2)) (by omega) 1 1 (by decide)) ?_
            refine lv_isub hx hb dJ6_numberOfLeadingZeros_0f7a4_77 ?_
            exact W.iret (v := (nI 9) - (nI ((((k / 2 ^ 16) / 2 ^ 4) / 2 ^ 2) / 2 ^ 1))) hx hb hr (fun t ht hW => ⟨_, rfl, by rw [pk_tn (by omega)]; exact kf_nz (n := 9 - ((((k / 2 ^ 16) / 2 ^ 4) / 2 ^ 2) / 2 ^ 1)) (by omega) (pk_sub (a := 9) (b := ((((k / 2 ^ 16) / 2 ^ 4) / 2 ^ 2) / 2 ^ 1)) (by omega)) (by omega) (by omega) (by omega) (by omega), ht⟩) (fun _ h => nomatch h) dJ6_numberOfLeadingZeros_0f7a4_78
      · have kc_10 : ¬ (k / 2 ^ 16) < 256 := fun h => c_10 ((nI_ltI (b := 256) (by omega) (by decide)).mpr h)
        refine lv_iinc (v := nI 7) (lv' := [(1, .int (nI 7)), (0, .int (nI (k / 2 ^ 16)))]) hx hb dJ6_numberOfLeadingZeros_0f7a4_40 hl (k := 1) rfl (by decide) (by decide) rfl (fun ls hl => ?_)
        refine lv_iload_n hx hb dJ6_numberOfLeadingZeros_0f7a4_43 rfl (lv_at hl 1 rfl) ?_
        refine lv_bipush (v := 8) hx hb dJ6_numberOfLeadingZeros_0f7a4_44 (by decide) ?_
        refine lv_iushr hx hb dJ6_numberOfLeadingZeros_0f7a4_46 rfl ?_
        refine kz_asi (y := nI ((k / 2 ^ 16) / 2 ^ 8)) (pk_ushrN (n := (k / 2 ^ 16)) (by omega) 8 8 (by decide)) ?_
        refine lv_istore_n (lv' := [(0, .int (nI ((k / 2 ^ 16) / 2 ^ 8))), (1, .int (nI 7))]) hx hb dJ6_numberOfLeadingZeros_0f7a4_47 rfl hl (by decide) rfl (fun ls hl => ?_)
        refine lv_iload_n hx hb dJ6_numberOfLeadingZeros_0f7a4_48 rfl (lv_at hl 0 rfl) ?_
        refine lv_bipush (v := 16) hx hb dJ6_numberOfLeadingZeros_0f7a4_49 (by decide) ?_
        refine lv_icmp_lt (tgt := 61) hx hb dJ6_numberOfLeadingZeros_0f7a4_51 (by decide) (fun c_14 => ?_) (fun c_14 => ?_)
        · have kc_14 : ((k / 2 ^ 16) / 2 ^ 8) < 16 := (nI_ltI (b := 16) (by omega) (by decide)).mp c_14
          refine lv_iload_n hx hb dJ6_numberOfLeadingZeros_0f7a4_61 rfl (lv_at hl 0 rfl) ?_
          refine lv_iconst (v := 4) hx hb dJ6_numberOfLeadingZeros_0f7a4_62 (by decide) ?_
          refine lv_icmp_lt (tgt := 73) hx hb dJ6_numberOfLeadingZeros_0f7a4_63 (by decide) (fun c_15 => ?_) (fun c_15 => ?_)
          · have kc_15 : ((k / 2 ^ 16) / 2 ^ 8) < 4 := (nI_ltI (b := 4) (by omega) (by decide)).mp c_15
            refine lv_iload_n hx hb dJ6_numberOfLeadingZeros_0f7a4_73 rfl (lv_at hl 1 rfl) ?_
            refine lv_iload_n hx hb dJ6_numberOfLeadingZeros_0f7a4_74 rfl (lv_at hl 0 rfl) ?_
            refine lv_iconst (v := 1) hx hb dJ6_numberOfLeadingZeros_0f7a4_75 (by decide) ?_
            refine lv_iushr hx hb dJ6_numberOfLeadingZeros_0f7a4_76 rfl ?_
            refine kz_asi (y := nI (((k / 2 ^ 16) / 2 ^ 8) / 2 ^ 1)) (pk_ushrN (n := ((k / 2 ^ 16) / 2 ^ 8)) (by omega) 1 1 (by decide)) ?_
            refine lv_isub hx hb dJ6_numberOfLeadingZeros_0f7a4_77 ?_
            exact W.iret (v := (nI 7) - (nI (((k / 2 ^ 16) / 2 ^ 8) / 2 ^ 1))) hx hb hr (fun t ht hW => ⟨_, rfl, by rw [pk_tn (by omega)]; exact kf_nz (n := 7 - (((k / 2 ^ 16) / 2 ^ 8) / 2 ^ 1)) (by omega) (pk_sub (a := 7) (b := (((k / 2 ^ 16) / 2 ^ 8) / 2 ^ 1)) (by omega)) (by omega) (by omega) (by omega) (by omega), ht⟩) (fun _ h => nomatch h) dJ6_numberOfLeadingZeros_0f7a4_78
          · have kc_15 : ¬ ((k / 2 ^ 16) / 2 ^ 8) < 4 := fun h => c_15 ((nI_ltI (b := 4) (by omega) (by decide)).mpr h)
            refine lv_iinc (v := nI 5) (lv' := [(1, .int (nI 5)), (0, .int (nI ((k / 2 ^ 16) / 2 ^ 8)))]) hx hb dJ6_numberOfLeadingZeros_0f7a4_66 hl (k := 1) rfl (by decide) (by decide) rfl (fun ls hl => ?_)
            refine lv_iload_n hx hb dJ6_numberOfLeadingZeros_0f7a4_69 rfl (lv_at hl 1 rfl) ?_
            refine lv_iconst (v := 2) hx hb dJ6_numberOfLeadingZeros_0f7a4_70 (by decide) ?_
            refine lv_iushr hx hb dJ6_numberOfLeadingZeros_0f7a4_71 rfl ?_
            refine kz_asi (y := nI (((k / 2 ^ 16) / 2 ^ 8) / 2 ^ 2)) (pk_ushrN (n := ((k / 2 ^ 16) / 2 ^ 8)) (by omega) 2 2 (by decide)) ?_
            refine lv_istore_n (lv' := [(0, .int (nI (((k / 2 ^ 16) / 2 ^ 8) / 2 ^ 2))), (1, .int (nI 5))]) hx hb dJ6_numberOfLeadingZeros_0f7a4_72 rfl hl (by decide) rfl (fun ls hl => ?_)
            refine lv_iload_n hx hb dJ6_numberOfLeadingZeros_0f7a4_73 rfl (lv_at hl 1 rfl) ?_
            refine lv_iload_n hx hb dJ6_numberOfLeadingZeros_0f7a4_74 rfl (lv_at hl 0 rfl) ?_
            refine lv_iconst (v := 1) hx hb dJ6_numberOfLeadingZeros_0f7a4_75 (by decide) ?_
            refine lv_iushr hx hb dJ6_numberOfLeadingZeros_0f7a4_76 rfl ?_
            refine kz_asi (y := nI ((((k / 2 ^ 16) / 2 ^ 8) / 2 ^ 2) / 2 ^ 1)) (pk_ushrN (n := (((k / 2 ^ 16) / 2 ^ 8) / 2 ^ 2)) (by omega) 1 1 (by decide)) ?_
            refine lv_isub hx hb dJ6_numberOfLeadingZeros_0f7a4_77 ?_
            exact W.iret (v := (nI 5) - (nI ((((k / 2 ^ 16) / 2 ^ 8) / 2 ^ 2) / 2 ^ 1))) hx hb hr (fun t ht hW => ⟨_, rfl, by rw [pk_tn (by omega)]; exact kf_nz (n := 5 - ((((k / 2 ^ 16) / 2 ^ 8) / 2 ^ 2) / 2 ^ 1)) (by omega) (pk_sub (a := 5) (b := ((((k / 2 ^ 16) / 2 ^ 8) / 2 ^ 2) / 2 ^ 1)) (by omega)) (by omega) (by omega) (by omega) (by omega), ht⟩) (fun _ h => nomatch h) dJ6_numberOfLeadingZeros_0f7a4_78
        · have kc_14 : ¬ ((k / 2 ^ 16) / 2 ^ 8) < 16 := fun h => c_14 ((nI_ltI (b := 16) (by omega) (by decide)).mpr h)
          refine lv_iinc (v := nI 3) (lv' := [(1, .int (nI 3)), (0, .int (nI ((k / 2 ^ 16) / 2 ^ 8)))]) hx hb dJ6_numberOfLeadingZeros_0f7a4_54 hl (k := 1) rfl (by decide) (by decide) rfl (fun ls hl => ?_)
          refine lv_iload_n hx hb dJ6_numberOfLeadingZeros_0f7a4_57 rfl (lv_at hl 1 rfl) ?_
          refine lv_iconst (v := 4) hx hb dJ6_numberOfLeadingZeros_0f7a4_58 (by decide) ?_
          refine lv_iushr hx hb dJ6_numberOfLeadingZeros_0f7a4_59 rfl ?_
          refine kz_asi (y := nI (((k / 2 ^ 16) / 2 ^ 8) / 2 ^ 4)) (pk_ushrN (n := ((k / 2 ^ 16) / 2 ^ 8)) (by omega) 4 4 (by decide)) ?_
          refine lv_istore_n (lv' := [(0, .int (nI (((k / 2 ^ 16) / 2 ^ 8) / 2 ^ 4))), (1, .int (nI 3))]) hx hb dJ6_numberOfLeadingZeros_0f7a4_60 rfl hl (by decide) rfl (fun ls hl => ?_)
          refine lv_iload_n hx hb dJ6_numberOfLeadingZeros_0f7a4_61 rfl (lv_at hl 0 rfl) ?_
          refine lv_iconst (v := 4) hx hb dJ6_numberOfLeadingZeros_0f7a4_62 (by decide) ?_
          refine lv_icmp_lt (tgt := 73) hx hb dJ6_numberOfLeadingZeros_0f7a4_63 (by decide) (fun c_16 => ?_) (fun c_16 => ?_)
          · have kc_16 : (((k / 2 ^ 16) / 2 ^ 8) / 2 ^ 4) < 4 := (nI_ltI (b := 4) (by omega) (by decide)).mp c_16
            refine lv_iload_n hx hb dJ6_numberOfLeadingZeros_0f7a4_73 rfl (lv_at hl 1 rfl) ?_
            refine lv_iload_n hx hb dJ6_numberOfLeadingZeros_0f7a4_74 rfl (lv_at hl 0 rfl) ?_
            refine lv_iconst (v := 1) hx hb dJ6_numberOfLeadingZeros_0f7a4_75 (by decide) ?_
            refine lv_iushr hx hb dJ6_numberOfLeadingZeros_0f7a4_76 rfl ?_
            refine kz_asi (y := nI ((((k / 2 ^ 16) / 2 ^ 8) / 2 ^ 4) / 2 ^ 1)) (pk_ushrN (n := (((k / 2 ^ 16) / 2 ^ 8) / 2 ^ 4)) (by omega) 1 1 (by decide)) ?_
            refine lv_isub hx hb dJ6_numberOfLeadingZeros_0f7a4_77 ?_
            exact W.iret (v := (nI 3) - (nI ((((k / 2 ^ 16) / 2 ^ 8) / 2 ^ 4) / 2 ^ 1))) hx hb hr (fun t ht hW => ⟨_, rfl, by rw [pk_tn (by omega)]; exact kf_nz (n := 3 - ((((k / 2 ^ 16) / 2 ^ 8) / 2 ^ 4) / 2 ^ 1)) (by omega) (pk_sub (a := 3) (b := ((((k / 2 ^ 16) / 2 ^ 8) / 2 ^ 4) / 2 ^ 1)) (by omega)) (by omega) (by omega) (by omega) (by omega), ht⟩) (fun _ h => nomatch h) dJ6_numberOfLeadingZeros_0f7a4_78
          · have kc_16 : ¬ (((k / 2 ^ 16) / 2 ^ 8) / 2 ^ 4) < 4 := fun h => c_16 ((nI_ltI (b := 4) (by omega) (by decide)).mpr h)
            refine lv_iinc (v := nI 1) (lv' := [(1, .int (nI 1)), (0, .int (nI (((k / 2 ^ 16) / 2 ^ 8) / 2 ^ 4)))]) hx hb dJ6_numberOfLeadingZeros_0f7a4_66 hl (k := 1) rfl (by decide) (by decide) rfl (fun ls hl => ?_)
            refine lv_iload_n hx hb dJ6_numberOfLeadingZeros_0f7a4_69 rfl (lv_at hl 1 rfl) ?_
            refine lv_iconst (v := 2) hx hb dJ6_numberOfLeadingZeros_0f7a4_70 (by decide) ?_
            refine lv_iushr hx hb dJ6_numberOfLeadingZeros_0f7a4_71 rfl ?_
            refine kz_asi (y := nI ((((k / 2 ^ 16) / 2 ^ 8) / 2 ^ 4) / 2 ^ 2)) (pk_ushrN (n := (((k / 2 ^ 16) / 2 ^ 8) / 2 ^ 4)) (by omega) 2 2 (by decide)) ?_
            refine lv_istore_n (lv' := [(0, .int (nI ((((k / 2 ^ 16) / 2 ^ 8) / 2 ^ 4) / 2 ^ 2))), (1, .int (nI 1))]) hx hb dJ6_numberOfLeadingZeros_0f7a4_72 rfl hl (by decide) rfl (fun ls hl => ?_)
            refine lv_iload_n hx hb dJ6_numberOfLeadingZeros_0f7a4_73 rfl (lv_at hl 1 rfl) ?_
            refine lv_iload_n hx hb dJ6_numberOfLeadingZeros_0f7a4_74 rfl (lv_at hl 0 rfl) ?_
            refine lv_iconst (v := 1) hx hb dJ6_numberOfLeadingZeros_0f7a4_75 (by decide) ?_
            refine lv_iushr hx hb dJ6_numberOfLeadingZeros_0f7a4_76 rfl ?_
            refine kz_asi (y := nI (((((k / 2 ^ 16) / 2 ^ 8) / 2 ^ 4) / 2 ^ 2) / 2 ^ 1)) (pk_ushrN (n := ((((k / 2 ^ 16) / 2 ^ 8) / 2 ^ 4) / 2 ^ 2)) (by omega) 1 1 (by decide)) ?_
            refine lv_isub hx hb dJ6_numberOfLeadingZeros_0f7a4_77 ?_
            exact W.iret (v := (nI 1) - (nI (((((k / 2 ^ 16) / 2 ^ 8) / 2 ^ 4) / 2 ^ 2) / 2 ^ 1))) hx hb hr (fun t ht hW => ⟨_, rfl, by rw [pk_tn (by omega)]; exact kf_nz (n := 1 - (((((k / 2 ^ 16) / 2 ^ 8) / 2 ^ 4) / 2 ^ 2) / 2 ^ 1)) (by omega) (pk_sub (a := 1) (b := (((((k / 2 ^ 16) / 2 ^ 8) / 2 ^ 4) / 2 ^ 2) / 2 ^ 1)) (by omega)) (by omega) (by omega) (by omega) (by omega), ht⟩) (fun _ h => nomatch h) dJ6_numberOfLeadingZeros_0f7a4_78
  · refine lv_iload_n hx hb dJ6_numberOfLeadingZeros_0f7a4_4 rfl (lv_at hl 0 rfl) ?_
    refine lv_if_ne (tgt := 13) hx hb dJ6_numberOfLeadingZeros_0f7a4_5 (by decide) (fun c_17 => ?_) (fun c_17 => ?_)
    · refine lv_iconst (v := 0) hx hb dJ6_numberOfLeadingZeros_0f7a4_13 (by decide) ?_
      exact W.iret (v := 0) hx hb hr (fun t ht hW => ⟨_, rfl, by have h9 := kf_neg (i := i) (by rcases Decidable.em (i < 0) with h | h; exact h; exact absurd (Int32.le_antisymm (Int32.not_lt.mp c_1) (Int32.not_lt.mp h)) (by assumption)); exact kf_nz (n := 0) (by omega) rfl (by omega) (by omega) (by omega) (by omega), ht⟩) (fun _ h => nomatch h) dJ6_numberOfLeadingZeros_0f7a4_14
    · refine lv_bipush (v := 32) hx hb dJ6_numberOfLeadingZeros_0f7a4_8 (by decide) ?_
      refine lv_goto (tgt := 14) hx hb dJ6_numberOfLeadingZeros_0f7a4_10 (by decide) ?_
      exact W.iret (v := 32) hx hb hr (fun t ht hW => ⟨_, rfl, by rw [show i = 0 from by assumption]; exact kf_nz (n := 32) (by omega) rfl (by decide) (by decide) (by decide) (by decide), ht⟩) (fun _ h => nomatch h) dJ6_numberOfLeadingZeros_0f7a4_14
end
section
theorem kf_lo (a : Int64) : a.toInt32.toBitVec.toNat = un a % 4294967296 := by
  rw [Int64.toBitVec_toInt32, BitVec.signExtend_eq_setWidth_of_le _ (by decide), BitVec.toNat_setWidth]
  rfl
theorem kf_hi (a : Int64) : (a.toUInt64 >>> ((32 : Int32).toInt64.toUInt64 &&& Int64.toUInt64 63)).toInt64.toInt32.toBitVec.toNat = un a / 4294967296 := by
  rw [kf_lo]
  have h1 : un (a.toUInt64 >>> ((32 : Int32).toInt64.toUInt64 &&& Int64.toUInt64 63)).toInt64 = (a.toUInt64 >>> ((32 : Int32).toInt64.toUInt64 &&& Int64.toUInt64 63)).toNat := rfl
  rw [h1, UInt64.toNat_shiftRight]
  have h2 : (((32 : Int32).toInt64.toUInt64 &&& Int64.toUInt64 63).toNat % 64) = 32 := by decide
  rw [h2, Nat.shiftRight_eq_div_pow]
  have h3 : a.toUInt64.toNat = un a := rfl
  rw [h3]
  have h4 : un a < 18446744073709551616 := a.toBitVec.isLt
  omega
theorem kf_pw (j : Nat) (h : j ≤ 8) : j = 0 ∨ j = 1 ∨ j = 2 ∨ j = 3 ∨ j = 4 ∨ j = 5 ∨ j = 6 ∨ j = 7 ∨ j = 8 := by omega
theorem kf_i0 {i : Int32} : i = 0 ↔ i.toBitVec.toNat = 0 := by
  constructor
  · rintro rfl; rfl
  · intro h
    apply Int32.toBitVec_inj.mp
    apply BitVec.eq_of_toNat_eq
    rw [h]; rfl

set_option maxHeartbeats 4000000 in
set_option maxRecDepth 100000 in
theorem c_J13_numberOfLeadingZeros_95d88 (l : Launch) (a : Int64) : Met l yJ13_numberOfLeadingZeros_95d88 wsJ13_numberOfLeadingZeros_95d88 { frames := 1, cells := 0, slots := 0, locals := 21 } (kz_P0 [.long a]) (vp_Si (fun r => ∃ n : Nat, n ≤ 64 ∧ r = nI n ∧ ∀ j : Nat, j ≤ 8 → (8 * j ≤ n ↔ un a < 2 ^ (64 - 8 * j)))) 0 0 (fun _ => False) := by
  refine Met.ofW (cc := cJ13_numberOfLeadingZeros_95d88) (maxL := 3) (ret := (some .int)) (by decide) rfl ?_
  intro p e s m args below meth c s₁ B hml hv
  obtain ⟨rfl, -⟩ := hv
  have hx := B.exec
  have hb := B.bytes
  have hr := B.returns
  have hts := atoms_spec (ws := wsJ13_numberOfLeadingZeros_95d88) B.pre
  have hown : s.vm.findClass RJ13 = some m.cls := findClass_of_methodNamed B.named
  have hlocks := B.notSynchronized
  have hl := lv_entry ([.long a]) (n := 3) (Nat.le_of_ble_eq_true rfl)
  rw [lg_entry_eq]
  generalize (lg_sl ([.long a]) ++ List.replicate (3 - (lg_sl ([.long a])).length) Slot.unset).toArray = ls at hl ⊢
  have hl : lv_has ls 3 [(0, .long a)] := hl
  refine lv_lload_n hx hb dJ13_numberOfLeadingZeros_95d88_0 rfl (lv_at hl 0 rfl) ?_
  refine lv_bipush (v := 32) hx hb dJ13_numberOfLeadingZeros_95d88_1 (by decide) ?_
  refine lv_lushr hx hb dJ13_numberOfLeadingZeros_95d88_3 rfl ?_
  refine lv_l2i hx hb dJ13_numberOfLeadingZeros_95d88_4 rfl ?_
  refine lv_istore_n (lv' := [(2, .int (((a.toUInt64 >>> ((32 : Int32).toInt64.toUInt64 &&& Int64.toUInt64 63)).toInt64).toInt32)), (0, .long a)]) hx hb dJ13_numberOfLeadingZeros_95d88_5 rfl hl (by decide) rfl (fun ls hl => ?_)
  refine lv_iload_n hx hb dJ13_numberOfLeadingZeros_95d88_6 rfl (lv_at hl 0 rfl) ?_
  refine lv_if_ne (tgt := 21) hx hb dJ13_numberOfLeadingZeros_95d88_7 (by decide) (fun c_1 => ?_) (fun c_1 => ?_)
  · refine lv_iload_n hx hb dJ13_numberOfLeadingZeros_95d88_21 rfl (lv_at hl 0 rfl) ?_
    refine vp_callSi (va_runS (As := [.int (((a.toUInt64 >>> ((32 : Int32).toInt64.toUInt64 &&& Int64.toUInt64 63)).toInt64).toInt32)]) (rest := []) ⟨hx, hb, hml, hown, hts⟩ (c_J6_numberOfLeadingZeros_0f7a4 l (((a.toUInt64 >>> ((32 : Int32).toInt64.toUInt64 &&& Int64.toUInt64 63)).toInt64).toInt32)) (va_cwS 1 hts gJ13_numberOfLeadingZeros_95d88_J6_numberOfLeadingZeros_0f7a4 rfl rfl rfl (by decide +kernel) ⟨Nat.le_of_ble_eq_true rfl, Nat.le_of_ble_eq_true rfl⟩) kz_ps0 rfl rfl hl.1 rfl (lv_room (Nat.le_of_ble_eq_true rfl)) dJ13_numberOfLeadingZeros_95d88_22 ⟨Nat.zero_le _, Nat.zero_le _⟩).run (fun r_2 h_3 => ?_)
    obtain ⟨n9, hn9, rfl, hz8, hz16, hz24, hz32⟩ := h_3
    exact W.iret (v := nI n9) hx hb hr (fun t ht hW => ⟨_, rfl, ⟨n9, by omega, rfl, fun j hj => by
        have e2 := kf_hi a
        have e3 : ¬ un a / 4294967296 = 0 := fun h => c_1 (kf_i0.mpr (by rw [e2]; exact h))
        have e4 : un a < 18446744073709551616 := a.toBitVec.isLt
        rw [e2] at hz8 hz16 hz24 hz32
        rcases kf_pw j hj with rfl | rfl | rfl | rfl | rfl | rfl | rfl | rfl | rfl <;> omega⟩, ht⟩) (fun _ h => nomatch h) dJ13_numberOfLeadingZeros_95d88_25
  · refine lv_bipush (v := 32) hx hb dJ13_numberOfLeadingZeros_95d88_10 (by decide) ?_
    refine lv_lload_n hx hb dJ13_numberOfLeadingZeros_95d88_12 rfl (lv_at hl 1 rfl) ?_
    refine lv_l2i hx hb dJ13_numberOfLeadingZeros_95d88_13 rfl ?_
    refine vp_callSi (va_runS (As := [.int a.toInt32]) (rest := [.int 32]) ⟨hx, hb, hml, hown, hts⟩ (c_J6_numberOfLeadingZeros_0f7a4 l a.toInt32) (va_cwS 1 hts gJ13_numberOfLeadingZeros_95d88_J6_numberOfLeadingZeros_0f7a4 rfl rfl rfl (by decide +kernel) ⟨Nat.le_of_ble_eq_true rfl, Nat.le_of_ble_eq_true rfl⟩) kz_ps0 rfl rfl hl.1 rfl (lv_room (Nat.le_of_ble_eq_true rfl)) dJ13_numberOfLeadingZeros_95d88_14 ⟨Nat.zero_le _, Nat.zero_le _⟩).run (fun r_4 h_5 => ?_)
    obtain ⟨n9, hn9, rfl, hz8, hz16, hz24, hz32⟩ := h_5
    refine lv_iadd hx hb dJ13_numberOfLeadingZeros_95d88_17 ?_
    refine lv_goto (tgt := 25) hx hb dJ13_numberOfLeadingZeros_95d88_18 (by decide) ?_
    exact W.iret (v := 32 + (nI n9)) hx hb hr (fun t ht hW => ⟨_, rfl, ⟨32 + n9, by omega, by rw [← nI_add]; rfl, fun j hj => by
        have e1 := kf_lo a
        have e2 := kf_hi a
        have e3 := kf_i0.mp c_1
        have e4 : un a < 18446744073709551616 := a.toBitVec.isLt
        rw [e1] at hz8 hz16 hz24 hz32
        rw [e2] at e3
        rcases kf_pw j hj with rfl | rfl | rfl | rfl | rfl | rfl | rfl | rfl | rfl <;> omega⟩, ht⟩) (fun _ h => nomatch h) dJ13_numberOfLeadingZeros_95d88_25

def kf_pop (k : Nat) : Nat := ((List.range 9).filter (fun j => k.testBit j)).length
theorem kf_bc : ∀ k : Fin 512, ((((((((nI k) - ((((nI k).toUInt32 >>> ((1 : Int32).toUInt32 &&& Int32.toUInt32 31)).toInt32) &&& 1431655765)) &&& 858993459) + (((((nI k) - ((((nI k).toUInt32 >>> ((1 : Int32).toUInt32 &&& Int32.toUInt32 31)).toInt32) &&& 1431655765)).toUInt32 >>> ((2 : Int32).toUInt32 &&& Int32.toUInt32 31)).toInt32) &&& 858993459)) + ((((((nI k) - ((((nI k).toUInt32 >>> ((1 : Int32).toUInt32 &&& Int32.toUInt32 31)).toInt32) &&& 1431655765)) &&& 858993459) + (((((nI k) - ((((nI k).toUInt32 >>> ((1 : Int32).toUInt32 &&& Int32.toUInt32 31)).toInt32) &&& 1431655765)).toUInt32 >>> ((2 : Int32).toUInt32 &&& Int32.toUInt32 31)).toInt32) &&& 858993459)).toUInt32 >>> ((4 : Int32).toUInt32 &&& Int32.toUInt32 31)).toInt32)) &&& 252645135) + ((((((((nI k) - ((((nI k).toUInt32 >>> ((1 : Int32).toUInt32 &&& Int32.toUInt32 31)).toInt32) &&& 1431655765)) &&& 858993459) + (((((nI k) - ((((nI k).toUInt32 >>> ((1 : Int32).toUInt32 &&& Int32.toUInt32 31)).toInt32) &&& 1431655765)).toUInt32 >>> ((2 : Int32).toUInt32 &&& Int32.toUInt32 31)).toInt32) &&& 858993459)) + ((((((nI k) - ((((nI k).toUInt32 >>> ((1 : Int32).toUInt32 &&& Int32.toUInt32 31)).toInt32) &&& 1431655765)) &&& 858993459) + (((((nI k) - ((((nI k).toUInt32 >>> ((1 : Int32).toUInt32 &&& Int32.toUInt32 31)).toInt32) &&& 1431655765)).toUInt32 >>> ((2 : Int32).toUInt32 &&& Int32.toUInt32 31)).toInt32) &&& 858993459)).toUInt32 >>> ((4 : Int32).toUInt32 &&& Int32.toUInt32 31)).toInt32)) &&& 252645135).toUInt32 >>> ((8 : Int32).toUInt32 &&& Int32.toUInt32 31)).toInt32)) + (((((((((nI k) - ((((nI k).toUInt32 >>> ((1 : Int32).toUInt32 &&& Int32.toUInt32 31)).toInt32) &&& 1431655765)) &&& 858993459) + (((((nI k) - ((((nI k).toUInt32 >>> ((1 : Int32).toUInt32 &&& Int32.toUInt32 31)).toInt32) &&& 1431655765)).toUInt32 >>> ((2 : Int32).toUInt32 &&& Int32.toUInt32 31)).toInt32) &&& 858993459)) + ((((((nI k) - ((((nI k).toUInt32 >>> ((1 : Int32).toUInt32 &&& Int32.toUInt32 31)).toInt32) &&& 1431655765)) &&& 858993459) + (((((nI k) - ((((nI k).toUInt32 >>> ((1 : Int32).toUInt32 &&& Int32.toUInt32 31)).toInt32) &&& 1431655765)).toUInt32 >>> ((2 : Int32).toUInt32 &&& Int32.toUInt32 31)).toInt32) &&& 858993459)).toUInt32 >>> ((4 : Int32).toUInt32 &&& Int32.toUInt32 31)).toInt32)) &&& 252645135) + ((((((((nI k) - ((((nI k).toUInt32 >>> ((1 : Int32).toUInt32 &&& Int32.toUInt32 31)).toInt32) &&& 1431655765)) &&& 858993459) + (((((nI k) - ((((nI k).toUInt32 >>> ((1 : Int32).toUInt32 &&& Int32.toUInt32 31)).toInt32) &&& 1431655765)).toUInt32 >>> ((2 : Int32).toUInt32 &&& Int32.toUInt32 31)).toInt32) &&& 858993459)) + ((((((nI k) - ((((nI k).toUInt32 >>> ((1 : Int32).toUInt32 &&& Int32.toUInt32 31)).toInt32) &&& 1431655765)) &&& 858993459) + (((((nI k) - ((((nI k).toUInt32 >>> ((1 : Int32).toUInt32 &&& Int32.toUInt32 31)).toInt32) &&& 1431655765)).toUInt32 >>> ((2 : Int32).toUInt32 &&& Int32.toUInt32 31)).toInt32) &&& 858993459)).toUInt32 >>> ((4 : Int32).toUInt32 &&& Int32.toUInt32 31)).toInt32)) &&& 252645135).toUInt32 >>> ((8 : Int32).toUInt32 &&& Int32.toUInt32 31)).toInt32)).toUInt32 >>> ((16 : Int32).toUInt32 &&& Int32.toUInt32 31)).toInt32)) &&& 63 = nI (kf_pop k) := by decide +kernel

set_option maxHeartbeats 4000000 in
set_option maxRecDepth 100000 in
theorem c_J6_bitCount_0f7a4 (l : Launch) (k : Nat) (hk : k < 512) : Met l yJ6_bitCount_0f7a4 wsJ6_bitCount_0f7a4 { frames := 0, cells := 0, slots := 0, locals := 0 } (kz_P0 [.int (nI k)]) (vp_Si (fun r => r = nI (kf_pop k))) 0 0 (fun _ => False) := by
  refine Met.ofW (cc := cJ6_bitCount_0f7a4) (maxL := 1) (ret := (some .int)) (by decide) rfl ?_
  intro p e s m args below meth c s₁ B hml hv
  obtain ⟨rfl, -⟩ := hv
  have hx := B.exec
  have hb := B.bytes
  have hr := B.returns
  have hts := atoms_spec (ws := wsJ6_bitCount_0f7a4) B.pre
  have hown : s.vm.findClass RJ6 = some m.cls := findClass_of_methodNamed B.named
  have hlocks := B.notSynchronized
  have hl := lv_entry ([.int (nI k)]) (n := 1) (Nat.le_of_ble_eq_true rfl)
  rw [lg_entry_eq]
  generalize (lg_sl ([.int (nI k)]) ++ List.replicate (1 - (lg_sl ([.int (nI k)])).length) Slot.unset).toArray = ls at hl ⊢
  have hl : lv_has ls 1 [(0, .int (nI k))] := hl
  refine lv_iload_n hx hb dJ6_bitCount_0f7a4_0 rfl (lv_at hl 0 rfl) ?_
  refine lv_iload_n hx hb dJ6_bitCount_0f7a4_1 rfl (lv_at hl 0 rfl) ?_
  refine lv_iconst (v := 1) hx hb dJ6_bitCount_0f7a4_2 (by decide) ?_
  refine lv_iushr hx hb dJ6_bitCount_0f7a4_3 rfl ?_
  refine lv_ldcw (v := 1431655765) hx hb hown (hts (.constant RJ6 265 1431655765) (by decide +kernel)) dJ6_bitCount_0f7a4_4 ?_
  refine lv_iand hx hb dJ6_bitCount_0f7a4_7 ?_
  refine lv_isub hx hb dJ6_bitCount_0f7a4_8 ?_
  refine lv_istore_n (lv' := [(0, .int ((nI k) - ((((nI k).toUInt32 >>> ((1 : Int32).toUInt32 &&& Int32.toUInt32 31)).toInt32) &&& 1431655765)))]) hx hb dJ6_bitCount_0f7a4_9 rfl hl (by decide) rfl (fun ls hl => ?_)
  refine lv_iload_n hx hb dJ6_bitCount_0f7a4_10 rfl (lv_at hl 0 rfl) ?_
  refine lv_ldcw (v := 858993459) hx hb hown (hts (.constant RJ6 266 858993459) (by decide +kernel)) dJ6_bitCount_0f7a4_11 ?_
  refine lv_iand hx hb dJ6_bitCount_0f7a4_14 ?_
  refine lv_iload_n hx hb dJ6_bitCount_0f7a4_15 rfl (lv_at hl 0 rfl) ?_
  refine lv_iconst (v := 2) hx hb dJ6_bitCount_0f7a4_16 (by decide) ?_
  refine lv_iushr hx hb dJ6_bitCount_0f7a4_17 rfl ?_
  refine lv_ldcw (v := 858993459) hx hb hown (hts (.constant RJ6 266 858993459) (by decide +kernel)) dJ6_bitCount_0f7a4_18 ?_
  refine lv_iand hx hb dJ6_bitCount_0f7a4_21 ?_
  refine lv_iadd hx hb dJ6_bitCount_0f7a4_22 ?_
  refine lv_istore_n (lv' := [(0, .int ((((nI k) - ((((nI k).toUInt32 >>> ((1 : Int32).toUInt32 &&& Int32.toUInt32 31)).toInt32) &&& 1431655765)) &&& 858993459) + (((((nI k) - ((((nI k).toUInt32 >>> ((1 : Int32).toUInt32 &&& Int32.toUInt32 31)).toInt32) &&& 1431655765)).toUInt32 >>> ((2 : Int32).toUInt32 &&& Int32.toUInt32 31)).toInt32) &&& 858993459)))]) hx hb dJ6_bitCount_0f7a4_23 rfl hl (by decide) rfl (fun ls hl => ?_)
  refine lv_iload_n hx hb dJ6_bitCount_0f7a4_24 rfl (lv_at hl 0 rfl) ?_
  refine lv_iload_n hx hb dJ6_bitCount_0f7a4_25 rfl (lv_at hl 0 rfl) ?_
  refine lv_iconst (v := 4) hx hb dJ6_bitCount_0f7a4_26 (by decide) ?_
  refine lv_iushr hx hb dJ6_bitCount_0f7a4_27 rfl ?_
  refine lv_iadd hx hb dJ6_bitCount_0f7a4_28 ?_
  refine lv_ldcw (v := 252645135) hx hb hown (hts (.constant RJ6 267 252645135) (by decide +kernel)) dJ6_bitCount_0f7a4_29 ?_
  refine lv_iand hx hb dJ6_bitCount_0f7a4_32 ?_
  refine lv_istore_n (lv' := [(0, .int ((((((nI k) - ((((nI k).toUInt32 >>> ((1 : Int32).toUInt32 &&& Int32.toUInt32 31)).toInt32) &&& 1431655765)) &&& 858993459) + (((((nI k) - ((((nI k).toUInt32 >>> ((1 : Int32).toUInt32 &&& Int32.toUInt32 31)).toInt32) &&& 1431655765)).toUInt32 >>> ((2 : Int32).toUInt32 &&& Int32.toUInt32 31)).toInt32) &&& 858993459)) + ((((((nI k) - ((((nI k).toUInt32 >>> ((1 : Int32).toUInt32 &&& Int32.toUInt32 31)).toInt32) &&& 1431655765)) &&& 858993459) + (((((nI k) - ((((nI k).toUInt32 >>> ((1 : Int32).toUInt32 &&& Int32.toUInt32 31)).toInt32) &&& 1431655765)).toUInt32 >>> ((2 : Int32).toUInt32 &&& Int32.toUInt32 31)).toInt32) &&& 858993459)).toUInt32 >>> ((4 : Int32).toUInt32 &&& Int32.toUInt32 31)).toInt32)) &&& 252645135))]) hx hb dJ6_bitCount_0f7a4_33 rfl hl (by decide) rfl (fun ls hl => ?_)
  refine lv_iload_n hx hb dJ6_bitCount_0f7a4_34 rfl (lv_at hl 0 rfl) ?_
  refine lv_iload_n hx hb dJ6_bitCount_0f7a4_35 rfl (lv_at hl 0 rfl) ?_
  refine lv_bipush (v := 8) hx hb dJ6_bitCount_0f7a4_36 (by decide) ?_
  refine lv_iushr hx hb dJ6_bitCount_0f7a4_38 rfl ?_
  refine lv_iadd hx hb dJ6_bitCount_0f7a4_39 ?_
  refine lv_istore_n (lv' := [(0, .int (((((((nI k) - ((((nI k).toUInt32 >>> ((1 : Int32).toUInt32 &&& Int32.toUInt32 31)).toInt32) &&& 1431655765)) &&& 858993459) + (((((nI k) - ((((nI k).toUInt32 >>> ((1 : Int32).toUInt32 &&& Int32.toUInt32 31)).toInt32) &&& 1431655765)).toUInt32 >>> ((2 : Int32).toUInt32 &&& Int32.toUInt32 31)).toInt32) &&& 858993459)) + ((((((nI k) - ((((nI k).toUInt32 >>> ((1 : Int32).toUInt32 &&& Int32.toUInt32 31)).toInt32) &&& 1431655765)) &&& 858993459) + (((((nI k) - ((((nI k).toUInt32 >>> ((1 : Int32).toUInt32 &&& Int32.toUInt32 31)).toInt32) &&& 1431655765)).toUInt32 >>> ((2 : Int32).toUInt32 &&& Int32.toUInt32 31)).toInt32) &&& 858993459)).toUInt32 >>> ((4 : Int32).toUInt32 &&& Int32.toUInt32 31)).toInt32)) &&& 252645135) + ((((((((nI k) - ((((nI k).toUInt32 >>> ((1 : Int32).toUInt32 &&& Int32.toUInt32 31)).toInt32) &&& 1431655765)) &&& 858993459) + (((((nI k) - ((((nI k).toUInt32 >>> ((1 : Int32).toUInt32 &&& Int32.toUInt32 31)).toInt32) &&& 1431655765)).toUInt32 >>> ((2 : Int32).toUInt32 &&& Int32.toUInt32 31)).toInt32) &&& 858993459)) + ((((((nI k) - ((((nI k).toUInt32 >>> ((1 : Int32).toUInt32 &&& Int32.toUInt32 31)).toInt32) &&& 1431655765)) &&& 858993459) + (((((nI k) - ((((nI k).toUInt32 >>> ((1 : Int32).toUInt32 &&& Int32.toUInt32 31)).toInt32) &&& 1431655765)).toUInt32 >>> ((2 : Int32).toUInt32 &&& Int32.toUInt32 31)).toInt32) &&& 858993459)).toUInt32 >>> ((4 : Int32).toUInt32 &&& Int32.toUInt32 31)).toInt32)) &&& 252645135).toUInt32 >>> ((8 : Int32).toUInt32 &&& Int32.toUInt32 31)).toInt32)))]) hx hb dJ6_bitCount_0f7a4_40 rfl hl (by decide) rfl (fun ls hl => ?_)
  refine lv_iload_n hx hb dJ6_bitCount_0f7a4_41 rfl (lv_at hl 0 rfl) ?_
  refine lv_iload_n hx hb dJ6_bitCount_0f7a4_42 rfl (lv_at hl 0 rfl) ?_
  refine lv_bipush (v := 16) hx hb dJ6_bitCount_0f7a4_43 (by decide) ?_
  refine lv_iushr hx hb dJ6_bitCount_0f7a4_45 rfl ?_
  refine lv_iadd hx hb dJ6_bitCount_0f7a4_46 ?_
  refine lv_istore_n (lv' := [(0, .int ((((((((nI k) - ((((nI k).toUInt32 >>> ((1 : Int32).toUInt32 &&& Int32.toUInt32 31)).toInt32) &&& 1431655765)) &&& 858993459) + (((((nI k) - ((((nI k).toUInt32 >>> ((1 : Int32).toUInt32 &&& Int32.toUInt32 31)).toInt32) &&& 1431655765)).toUInt32 >>> ((2 : Int32).toUInt32 &&& Int32.toUInt32 31)).toInt32) &&& 858993459)) + ((((((nI k) - ((((nI k).toUInt32 >>> ((1 : Int32).toUInt32 &&& Int32.toUInt32 31)).toInt32) &&& 1431655765)) &&& 858993459) + (((((nI k) - ((((nI k).toUInt32 >>> ((1 : Int32).toUInt32 &&& Int32.toUInt32 31)).toInt32) &&& 1431655765)).toUInt32 >>> ((2 : Int32).toUInt32 &&& Int32.toUInt32 31)).toInt32) &&& 858993459)).toUInt32 >>> ((4 : Int32).toUInt32 &&& Int32.toUInt32 31)).toInt32)) &&& 252645135) + ((((((((nI k) - ((((nI k).toUInt32 >>> ((1 : Int32).toUInt32 &&& Int32.toUInt32 31)).toInt32) &&& 1431655765)) &&& 858993459) + (((((nI k) - ((((nI k).toUInt32 >>> ((1 : Int32).toUInt32 &&& Int32.toUInt32 31)).toInt32) &&& 1431655765)).toUInt32 >>> ((2 : Int32).toUInt32 &&& Int32.toUInt32 31)).toInt32) &&& 858993459)) + ((((((nI k) - ((((nI k).toUInt32 >>> ((1 : Int32).toUInt32 &&& Int32.toUInt32 31)).toInt32) &&& 1431655765)) &&& 858993459) + (((((nI k) - ((((nI k).toUInt32 >>> ((1 : Int32).toUInt32 &&& Int32.toUInt32 31)).toInt32) &&& 1431655765)).toUInt32 >>> ((2 : Int32).toUInt32 &&& Int32.toUInt32 31)).toInt32) &&& 858993459)).toUInt32 >>> ((4 : Int32).toUInt32 &&& Int32.toUInt32 31)).toInt32)) &&& 252645135).toUInt32 >>> ((8 : Int32).toUInt32 &&& Int32.toUInt32 31)).toInt32)) + (((((((((nI k) - ((((nI k).toUInt32 >>> ((1 : Int32).toUInt32 &&& Int32.toUInt32 31)).toInt32) &&& 1431655765)) &&& 858993459) + (((((nI k) - ((((nI k).toUInt32 >>> ((1 : Int32).toUInt32 &&& Int32.toUInt32 31)).toInt32) &&& 1431655765)).toUInt32 >>> ((2 : Int32).toUInt32 &&& Int32.toUInt32 31)).toInt32) &&& 858993459)) + ((((((nI k) - ((((nI k).toUInt32 >>> ((1 : Int32).toUInt32 &&& Int32.toUInt32 31)).toInt32) &&& 1431655765)) &&& 858993459) + (((((nI k) - ((((nI k).toUInt32 >>> ((1 : Int32).toUInt32 &&& Int32.toUInt32 31)).toInt32) &&& 1431655765)).toUInt32 >>> ((2 : Int32).toUInt32 &&& Int32.toUInt32 31)).toInt32) &&& 858993459)).toUInt32 >>> ((4 : Int32).toUInt32 &&& Int32.toUInt32 31)).toInt32)) &&& 252645135) + ((((((((nI k) - ((((nI k).toUInt32 >>> ((1 : Int32).toUInt32 &&& Int32.toUInt32 31)).toInt32) &&& 1431655765)) &&& 858993459) + (((((nI k) - ((((nI k).toUInt32 >>> ((1 : Int32).toUInt32 &&& Int32.toUInt32 31)).toInt32) &&& 1431655765)).toUInt32 >>> ((2 : Int32).toUInt32 &&& Int32.toUInt32 31)).toInt32) &&& 858993459)) + ((((((nI k) - ((((nI k).toUInt32 >>> ((1 : Int32).toUInt32 &&& Int32.toUInt32 31)).toInt32) &&& 1431655765)) &&& 858993459) + (((((nI k) - ((((nI k).toUInt32 >>> ((1 : Int32).toUInt32 &&& Int32.toUInt32 31)).toInt32) &&& 1431655765)).toUInt32 >>> ((2 : Int32).toUInt32 &&& Int32.toUInt32 31)).toInt32) &&& 858993459)).toUInt32 >>> ((4 : Int32).toUInt32 &&& Int32.toUInt32 31)).toInt32)) &&& 252645135).toUInt32 >>> ((8 : Int32).toUInt32 &&& Int32.toUInt32 31)).toInt32)).toUInt32 >>> ((16 : Int32).toUInt32 &&& Int32.toUInt32 31)).toInt32)))]) hx hb dJ6_bitCount_0f7a4_47 rfl hl (by decide) rfl (fun ls hl => ?_)
  refine lv_iload_n hx hb dJ6_bitCount_0f7a4_48 rfl (lv_at hl 0 rfl) ?_
  refine lv_bipush (v := 63) hx hb dJ6_bitCount_0f7a4_49 (by decide) ?_
  refine lv_iand hx hb dJ6_bitCount_0f7a4_51 ?_
  exact W.iret (v := ((((((((nI k) - ((((nI k).toUInt32 >>> ((1 : Int32).toUInt32 &&& Int32.toUInt32 31)).toInt32) &&& 1431655765)) &&& 858993459) + (((((nI k) - ((((nI k).toUInt32 >>> ((1 : Int32).toUInt32 &&& Int32.toUInt32 31)).toInt32) &&& 1431655765)).toUInt32 >>> ((2 : Int32).toUInt32 &&& Int32.toUInt32 31)).toInt32) &&& 858993459)) + ((((((nI k) - ((((nI k).toUInt32 >>> ((1 : Int32).toUInt32 &&& Int32.toUInt32 31)).toInt32) &&& 1431655765)) &&& 858993459) + (((((nI k) - ((((nI k).toUInt32 >>> ((1 : Int32).toUInt32 &&& Int32.toUInt32 31)).toInt32) &&& 1431655765)).toUInt32 >>> ((2 : Int32).toUInt32 &&& Int32.toUInt32 31)).toInt32) &&& 858993459)).toUInt32 >>> ((4 : Int32).toUInt32 &&& Int32.toUInt32 31)).toInt32)) &&& 252645135) + ((((((((nI k) - ((((nI k).toUInt32 >>> ((1 : Int32).toUInt32 &&& Int32.toUInt32 31)).toInt32) &&& 1431655765)) &&& 858993459) + (((((nI k) - ((((nI k).toUInt32 >>> ((1 : Int32).toUInt32 &&& Int32.toUInt32 31)).toInt32) &&& 1431655765)).toUInt32 >>> ((2 : Int32).toUInt32 &&& Int32.toUInt32 31)).toInt32) &&& 858993459)) + ((((((nI k) - ((((nI k).toUInt32 >>> ((1 : Int32).toUInt32 &&& Int32.toUInt32 31)).toInt32) &&& 1431655765)) &&& 858993459) + (((((nI k) - ((((nI k).toUInt32 >>> ((1 : Int32).toUInt32 &&& Int32.toUInt32 31)).toInt32) &&& 1431655765)).toUInt32 >>> ((2 : Int32).toUInt32 &&& Int32.toUInt32 31)).toInt32) &&& 858993459)).toUInt32 >>> ((4 : Int32).toUInt32 &&& Int32.toUInt32 31)).toInt32)) &&& 252645135).toUInt32 >>> ((8 : Int32).toUInt32 &&& Int32.toUInt32 31)).toInt32)) + (((((((((nI k) - ((((nI k).toUInt32 >>> ((1 : Int32).toUInt32 &&& Int32.toUInt32 31)).toInt32) &&& 1431655765)) &&& 858993459) + (((((nI k) - ((((nI k).toUInt32 >>> ((1 : Int32).toUInt32 &&& Int32.toUInt32 31)).toInt32) &&& 1431655765)).toUInt32 >>> ((2 : Int32).toUInt32 &&& Int32.toUInt32 31)).toInt32) &&& 858993459)) + ((((((nI k) - ((((nI k).toUInt32 >>> ((1 : Int32).toUInt32 &&& Int32.toUInt32 31)).toInt32) &&& 1431655765)) &&& 858993459) + (((((nI k) - ((((nI k).toUInt32 >>> ((1 : Int32).toUInt32 &&& Int32.toUInt32 31)).toInt32) &&& 1431655765)).toUInt32 >>> ((2 : Int32).toUInt32 &&& Int32.toUInt32 31)).toInt32) &&& 858993459)).toUInt32 >>> ((4 : Int32).toUInt32 &&& Int32.toUInt32 31)).toInt32)) &&& 252645135) + ((((((((nI k) - ((((nI k).toUInt32 >>> ((1 : Int32).toUInt32 &&& Int32.toUInt32 31)).toInt32) &&& 1431655765)) &&& 858993459) + (((((nI k) - ((((nI k).toUInt32 >>> ((1 : Int32).toUInt32 &&& Int32.toUInt32 31)).toInt32) &&& 1431655765)).toUInt32 >>> ((2 : Int32).toUInt32 &&& Int32.toUInt32 31)).toInt32) &&& 858993459)) + ((((((nI k) - ((((nI k).toUInt32 >>> ((1 : Int32).toUInt32 &&& Int32.toUInt32 31)).toInt32) &&& 1431655765)) &&& 858993459) + (((((nI k) - ((((nI k).toUInt32 >>> ((1 : Int32).toUInt32 &&& Int32.toUInt32 31)).toInt32) &&& 1431655765)).toUInt32 >>> ((2 : Int32).toUInt32 &&& Int32.toUInt32 31)).toInt32) &&& 858993459)).toUInt32 >>> ((4 : Int32).toUInt32 &&& Int32.toUInt32 31)).toInt32)) &&& 252645135).toUInt32 >>> ((8 : Int32).toUInt32 &&& Int32.toUInt32 31)).toInt32)).toUInt32 >>> ((16 : Int32).toUInt32 &&& Int32.toUInt32 31)).toInt32)) &&& 63) hx hb hr (fun t ht hW => ⟨_, rfl, kf_bc ⟨k, hk⟩, ht⟩) (fun _ h => nomatch h) dJ6_bitCount_0f7a4_52
end
section
/-- the k highest bytes of a word -/
def kf_cut (w : Int64) (k : Nat) : Int64 := if k = 0 then 0 else ⟨⟨(w.toBitVec >>> (64 - 8 * k)) <<< (64 - 8 * k)⟩⟩
theorem kf_un_cut (w : Int64) (k : Nat) : un (kf_cut w k) = un w / 2 ^ (64 - 8 * k) * 2 ^ (64 - 8 * k) := by
  have hw : un w < 2 ^ 64 := w.toBitVec.isLt
  unfold kf_cut
  split
  · subst k
    have : un w / 2 ^ (64 - 8 * 0) = 0 := Nat.div_eq_of_lt (by simpa using hw)
    rw [this]; rfl
  · show ((w.toBitVec >>> (64 - 8 * k)) <<< (64 - 8 * k)).toNat = _
    rw [BitVec.toNat_shiftLeft, BitVec.toNat_ushiftRight, Nat.shiftRight_eq_div_pow, Nat.shiftLeft_eq]
    have h1 : un w / 2 ^ (64 - 8 * k) * 2 ^ (64 - 8 * k) ≤ un w := Nat.div_mul_le_self _ _
    exact Nat.mod_eq_of_lt (Nat.lt_of_le_of_lt h1 hw)
theorem kf_bv1 (x : BitVec 64) (s : Nat) : x &&& (BitVec.allOnes 64 <<< s) = (x >>> s) <<< s := by
  apply BitVec.eq_of_getLsbD_eq
  intro i hi
  simp only [BitVec.getLsbD_and, BitVec.getLsbD_shiftLeft, BitVec.getLsbD_allOnes, BitVec.getLsbD_ushiftRight, hi, decide_true, Bool.true_and]
  by_cases h : i < s
  · simp [h]
  · have h2 : s + (i - s) = i := by omega
    have h3 : i - s < 64 := by omega
    simp [h, h2, h3]
theorem kf_bv2 (x : BitVec 64) (s : Nat) : (x.sshiftRight s) <<< s = (x >>> s) <<< s := by
  apply BitVec.eq_of_getLsbD_eq
  intro i hi
  simp only [BitVec.getLsbD_shiftLeft, BitVec.getLsbD_ushiftRight, BitVec.getLsbD_sshiftRight, hi, decide_true, Bool.true_and]
  by_cases h : i < s
  · simp [h]
  · have h2 : s + (i - s) = i := by omega
    have h3 : ¬ 64 ≤ i - s := by omega
    simp [h, h2, h3, hi]
theorem kf_sh1 : ∀ k : Fin 9, k.val ≠ 0 → ((8 * (8 - nI k.val)).toInt64 &&& 63).toBitVec.smod 64 = BitVec.ofNat 64 (64 - 8 * k.val) := by decide +kernel
theorem kf_sh2 : ∀ k : Fin 9, k.val ≠ 0 → ((64 - 8 * nI k.val).toInt64 &&& 63).toBitVec.smod 64 = BitVec.ofNat 64 (64 - 8 * k.val) := by decide +kernel
theorem kf_ofn (k : Nat) : (BitVec.ofNat 64 (64 - 8 * k)).toNat = 64 - 8 * k := by
  rw [BitVec.toNat_ofNat]
  exact Nat.mod_eq_of_lt (by omega)
theorem kf_hb (w : Int64) (k : Nat) (h : k ≤ 8) (h0 : k ≠ 0) : w &&& ((-1) <<< ((8 * (8 - nI k)).toInt64 &&& 63)) = kf_cut w k := by
  apply Int64.toBitVec_inj.mp
  rw [Int64.toBitVec_and, Int64.toBitVec_shiftLeft, kf_sh1 ⟨k, by omega⟩ h0, BitVec.shiftLeft_eq', kf_ofn]
  unfold kf_cut
  rw [if_neg h0]
  exact kf_bv1 w.toBitVec (64 - 8 * k)
theorem kf_ct (w : Int64) (k : Nat) (h : k ≤ 8) (h0 : k ≠ 0) : (w >>> ((64 - 8 * nI k).toInt64 &&& 63)) <<< ((64 - 8 * nI k).toInt64 &&& 63) = kf_cut w k := by
  apply Int64.toBitVec_inj.mp
  rw [Int64.toBitVec_shiftLeft, Int64.toBitVec_shiftRight, kf_sh2 ⟨k, by omega⟩ h0, BitVec.shiftLeft_eq', BitVec.sshiftRight_eq', kf_ofn]
  unfold kf_cut
  rw [if_neg h0]
  exact kf_bv2 w.toBitVec (64 - 8 * k)
theorem kf_n0 {k : Nat} (h : k ≤ 8) : nI k = 0 ↔ k = 0 := by
  rw [show (0 : Int32) = nI 0 from rfl]
  exact nI_eq (by omega) (by omega)
/-- how many highest bytes two words have in common, up to j -/
def kf_alN (a b : Nat) : Nat → Nat
  | 0 => 0
  | j + 1 => if a / 2 ^ (64 - 8 * (j + 1)) = b / 2 ^ (64 - 8 * (j + 1)) then j + 1 else kf_alN a b j
def kf_al (a b : Int64) : Nat := kf_alN (un a) (un b) 8
theorem kf_alN_le (a b : Nat) : ∀ j, kf_alN a b j ≤ j
  | 0 => Nat.le_refl _
  | j + 1 => by
    unfold kf_alN
    split
    · exact Nat.le_refl _
    · exact Nat.le_succ_of_le (kf_alN_le a b j)
theorem kf_down {a b s t : Nat} (hst : s ≤ t) (h : a / 2 ^ s = b / 2 ^ s) : a / 2 ^ t = b / 2 ^ t := by
  have e : 2 ^ t = 2 ^ s * 2 ^ (t - s) := by rw [← Nat.pow_add]; congr 1; omega
  rw [e, ← Nat.div_div_eq_div_mul, ← Nat.div_div_eq_div_mul, h]
theorem kf_alN_iff {a b : Nat} (ha : a < 2 ^ 64) (hb : b < 2 ^ 64) : ∀ (m : Nat), m ≤ 8 → ∀ j, j ≤ m → (j ≤ kf_alN a b m ↔ a / 2 ^ (64 - 8 * j) = b / 2 ^ (64 - 8 * j))
  | 0, _, j, hj => by
    obtain rfl : j = 0 := by omega
    have h1 : a / 2 ^ (64 - 8 * 0) = 0 := Nat.div_eq_of_lt (by simpa using ha)
    have h2 : b / 2 ^ (64 - 8 * 0) = 0 := Nat.div_eq_of_lt (by simpa using hb)
    rw [h1, h2]
    exact ⟨fun _ => rfl, fun _ => Nat.zero_le _⟩
  | m + 1, hm, j, hj => by
    unfold kf_alN
    split
    · rename_i h
      exact ⟨fun _ => kf_down (by omega) h, fun _ => hj⟩
    · rename_i h
      by_cases hjm : j = m + 1
      · subst hjm
        have := kf_alN_le a b m
        exact ⟨fun h9 => by omega, fun h9 => absurd h9 h⟩
      · exact kf_alN_iff ha hb m (by omega) j (by omega)
theorem kf_al_le (a b : Int64) : kf_al a b ≤ 8 := kf_alN_le _ _ 8
theorem kf_al_iff (a b : Int64) {j : Nat} (hj : j ≤ 8) : j ≤ kf_al a b ↔ un a / 2 ^ (64 - 8 * j) = un b / 2 ^ (64 - 8 * j) := kf_alN_iff a.toBitVec.isLt b.toBitVec.isLt 8 (Nat.le_refl _) j hj
theorem kf_cut_eq (a b : Int64) (j : Nat) : kf_cut a j = kf_cut b j ↔ un a / 2 ^ (64 - 8 * j) = un b / 2 ^ (64 - 8 * j) := by
  constructor
  · intro h
    have h1 := congrArg un h
    rw [kf_un_cut, kf_un_cut] at h1
    exact Nat.eq_of_mul_eq_mul_right (Nat.two_pow_pos _) h1
  · intro h
    apply un_inj
    rw [kf_un_cut, kf_un_cut, h]
theorem kf_xor (a b : Int64) (s : Nat) : un (a ^^^ b) < 2 ^ s ↔ un a / 2 ^ s = un b / 2 ^ s := by
  have h1 : un (a ^^^ b) = un a ^^^ un b := by
    unfold un
    rw [Int64.toBitVec_xor, BitVec.toNat_xor]
  rw [h1, ← Nat.div_eq_zero_iff_lt (Nat.two_pow_pos s), Nat.xor_div_two_pow]
  constructor
  · intro h
    have h2 := congrArg (fun z => z ^^^ (un b / 2 ^ s)) h
    simpa [Nat.xor_assoc] using h2
  · intro h
    rw [h, Nat.xor_self]
theorem kf_alike {a b : Int64} {n : Nat} (hn : n ≤ 64) (h : ∀ j : Nat, j ≤ 8 → (8 * j ≤ n ↔ un (a ^^^ b) < 2 ^ (64 - 8 * j))) : n / 8 = kf_al a b := by
  have h1 := kf_al_le a b
  have h2 : kf_al a b ≤ n / 8 := by
    have := (h _ h1).mpr ((kf_xor a b _).mpr ((kf_al_iff a b h1).mp (Nat.le_refl _)))
    omega
  have h3 : n / 8 ≤ 8 := by omega
  have h4 := (kf_al_iff a b h3).mpr ((kf_xor a b _).mp ((h _ h3).mp (by omega)))
  omega
/-- ForkStore.bytesInCommon -/
def kf_cm (a : Int64) (p : Nat) (b : Int64) (q : Nat) : Nat := min (kf_al a b) (min p q)
theorem kf_min {a b : Nat} (ha : a < 2 ^ 31) (hb : b < 2 ^ 31) : (if nI b < nI a then nI b else nI a) = nI (min a b) := by
  by_cases h : b < a
  · rw [if_pos ((nI_ltI hb ha).mpr h), Nat.min_eq_right (by omega)]
  · rw [if_neg (fun z => h ((nI_ltI hb ha).mp z)), Nat.min_eq_left (by omega)]
/-- the size of a fork -/
def kf_sz (b : Nat) : Nat := if b ≤ 4 then 0 else if b ≤ 16 then 1 else if b ≤ 48 then 2 else 3
theorem kf_div8 {n : Nat} (h : n ≤ 64) : nI n / 8 = nI (n / 8) := pk_div (a := n) (d := 8) (by omega) (by decide) (by decide)
def kf_okk (n : Int32) : Prop := 0 ≤ n ∧ n ≤ 8
theorem kf_ok_nat {n : Int32} (h : 0 ≤ n ∧ n ≤ 8) : ∃ k : Nat, k ≤ 8 ∧ n = nI k := nI_of2 (M := 8) (n := 8) rfl (Int32.not_lt.mpr h.1) h.2

set_option maxHeartbeats 4000000 in
set_option maxRecDepth 100000 in
theorem c_X3_isKeySize (l : Launch) (n : Int32) : Met l yX3_isKeySize wsX3_isKeySize { frames := 0, cells := 0, slots := 0, locals := 0 } (kz_P0 [.int n]) (vp_Si (fun r => r = if 0 ≤ n ∧ n ≤ 8 then 1 else 0)) 0 0 (fun _ => False) := by
  refine Met.ofW (cc := cX3_isKeySize) (maxL := 1) (ret := (some .boolean)) (by decide) rfl ?_
  intro p e s m args below meth c s₁ B hml hv
  obtain ⟨rfl, -⟩ := hv
  have hx := B.exec
  have hb := B.bytes
  have hr := B.returns
  have hts := atoms_spec (ws := wsX3_isKeySize) B.pre
  have hown : s.vm.findClass RX3 = some m.cls := findClass_of_methodNamed B.named
  have hlocks := B.notSynchronized
  have hl := lv_entry ([.int n]) (n := 1) (Nat.le_of_ble_eq_true rfl)
  rw [lg_entry_eq]
  generalize (lg_sl ([.int n]) ++ List.replicate (1 - (lg_sl ([.int n])).length) Slot.unset).toArray = ls at hl ⊢
  have hl : lv_has ls 1 [(0, .int n)] := hl
  refine lv_iload_n hx hb dX3_isKeySize_0 rfl (lv_at hl 0 rfl) ?_
  refine lv_if_lt (tgt := 14) hx hb dX3_isKeySize_1 (by decide) (fun c_1 => ?_) (fun c_1 => ?_)
  · refine lv_iconst (v := 0) hx hb dX3_isKeySize_14 (by decide) ?_
    exact W.zret (v := 0) hx hb hr rfl (fun t ht hW => ⟨_, rfl, (if_neg (fun h => absurd c_1 (Int32.not_lt.mpr h.1))).symm, ht⟩) (fun _ h => nomatch h) dX3_isKeySize_15
  · refine lv_iload_n hx hb dX3_isKeySize_4 rfl (lv_at hl 0 rfl) ?_
    refine lv_bipush (v := 8) hx hb dX3_isKeySize_5 (by decide) ?_
    refine lv_icmp_gt (tgt := 14) hx hb dX3_isKeySize_7 (by decide) (fun c_2 => ?_) (fun c_2 => ?_)
    · refine lv_iconst (v := 0) hx hb dX3_isKeySize_14 (by decide) ?_
      exact W.zret (v := 0) hx hb hr rfl (fun t ht hW => ⟨_, rfl, (if_neg (fun h => absurd c_2 (Int32.not_lt.mpr h.2))).symm, ht⟩) (fun _ h => nomatch h) dX3_isKeySize_15
    · refine lv_iconst (v := 1) hx hb dX3_isKeySize_10 (by decide) ?_
      refine lv_goto (tgt := 15) hx hb dX3_isKeySize_11 (by decide) ?_
      exact W.zret (v := 1) hx hb hr rfl (fun t ht hW => ⟨_, rfl, (if_pos ⟨Int32.not_lt.mp c_1, Int32.not_lt.mp c_2⟩).symm, ht⟩) (fun _ h => nomatch h) dX3_isKeySize_15

set_option maxHeartbeats 4000000 in
set_option maxRecDepth 100000 in
theorem c_X3_highestBytes (l : Launch) (w : Int64) (k : Nat) (hk : k ≤ 8) : Met l yX3_highestBytes wsX3_highestBytes { frames := 0, cells := 0, slots := 0, locals := 0 } (kz_P0 [.long w, .int (nI k)]) (vp_Sl (fun r => r = kf_cut w k)) 0 0 (fun _ => False) := by
  refine Met.ofW (cc := cX3_highestBytes) (maxL := 3) (ret := (some .long)) (by decide) rfl ?_
  intro p e s m args below meth c s₁ B hml hv
  obtain ⟨rfl, -⟩ := hv
  have hx := B.exec
  have hb := B.bytes
  have hr := B.returns
  have hts := atoms_spec (ws := wsX3_highestBytes) B.pre
  have hown : s.vm.findClass RX3 = some m.cls := findClass_of_methodNamed B.named
  have hlocks := B.notSynchronized
  have hl := lv_entry ([.long w, .int (nI k)]) (n := 3) (Nat.le_of_ble_eq_true rfl)
  rw [lg_entry_eq]
  generalize (lg_sl ([.long w, .int (nI k)]) ++ List.replicate (3 - (lg_sl ([.long w, .int (nI k)])).length) Slot.unset).toArray = ls at hl ⊢
  have hl : lv_has ls 3 [(0, .long w), (2, .int (nI k))] := hl
  refine lv_iload_n hx hb dX3_highestBytes_0 rfl (lv_at hl 1 rfl) ?_
  refine lv_if_ne (tgt := 8) hx hb dX3_highestBytes_1 (by decide) (fun c_1 => ?_) (fun c_1 => ?_)
  · refine lv_lload_n hx hb dX3_highestBytes_8 rfl (lv_at hl 0 rfl) ?_
    refine lv_ldc2 (v := (-1)) hx hb hown (hts (.constantLong RX3 133 (-1)) (by decide +kernel)) dX3_highestBytes_9 ?_
    refine lv_bipush (v := 8) hx hb dX3_highestBytes_12 (by decide) ?_
    refine lv_bipush (v := 8) hx hb dX3_highestBytes_14 (by decide) ?_
    refine lv_iload_n hx hb dX3_highestBytes_16 rfl (lv_at hl 1 rfl) ?_
    refine lv_isub hx hb dX3_highestBytes_17 ?_
    refine lv_imul hx hb dX3_highestBytes_18 ?_
    refine lv_lshl hx hb dX3_highestBytes_19 rfl ?_
    refine lv_land hx hb dX3_highestBytes_20 ?_
    exact W.lret (v := w &&& ((-1) <<< ((8 * (8 - (nI k))).toInt64 &&& 63))) hx hb hr (fun t ht hW => ⟨_, rfl, kf_hb w k hk (fun h => c_1 ((kf_n0 hk).mpr h)), ht⟩) (fun _ h => nomatch h) dX3_highestBytes_21
  · refine lv_lconst (v := 0) hx hb dX3_highestBytes_4 (by decide) ?_
    refine lv_goto (tgt := 21) hx hb dX3_highestBytes_5 (by decide) ?_
    exact W.lret (v := 0) hx hb hr (fun t ht hW => ⟨_, rfl, by rw [(kf_n0 hk).mp c_1]; rfl, ht⟩) (fun _ h => nomatch h) dX3_highestBytes_21

set_option maxHeartbeats 4000000 in
set_option maxRecDepth 100000 in
theorem c_X4_cut (l : Launch) (w : Int64) (k : Nat) (hk : k ≤ 8) : Met l yX4_cut wsX4_cut { frames := 0, cells := 0, slots := 0, locals := 0 } (kz_P0 [.long w, .int (nI k)]) (vp_Sl (fun r => r = kf_cut w k)) 0 0 (fun _ => False) := by
  refine Met.ofW (cc := cX4_cut) (maxL := 3) (ret := (some .long)) (by decide) rfl ?_
  intro p e s m args below meth c s₁ B hml hv
  obtain ⟨rfl, -⟩ := hv
  have hx := B.exec
  have hb := B.bytes
  have hr := B.returns
  have hts := atoms_spec (ws := wsX4_cut) B.pre
  have hown : s.vm.findClass RX4 = some m.cls := findClass_of_methodNamed B.named
  have hlocks := B.notSynchronized
  have hl := lv_entry ([.long w, .int (nI k)]) (n := 3) (Nat.le_of_ble_eq_true rfl)
  rw [lg_entry_eq]
  generalize (lg_sl ([.long w, .int (nI k)]) ++ List.replicate (3 - (lg_sl ([.long w, .int (nI k)])).length) Slot.unset).toArray = ls at hl ⊢
  have hl : lv_has ls 3 [(0, .long w), (2, .int (nI k))] := hl
  refine lv_iload_n hx hb dX4_cut_0 rfl (lv_at hl 1 rfl) ?_
  refine lv_if_ne (tgt := 8) hx hb dX4_cut_1 (by decide) (fun c_1 => ?_) (fun c_1 => ?_)
  · refine lv_lload_n hx hb dX4_cut_8 rfl (lv_at hl 0 rfl) ?_
    refine lv_bipush (v := 64) hx hb dX4_cut_9 (by decide) ?_
    refine lv_bipush (v := 8) hx hb dX4_cut_11 (by decide) ?_
    refine lv_iload_n hx hb dX4_cut_13 rfl (lv_at hl 1 rfl) ?_
    refine lv_imul hx hb dX4_cut_14 ?_
    refine lv_isub hx hb dX4_cut_15 ?_
    refine lv_lshr hx hb dX4_cut_16 rfl ?_
    refine lv_bipush (v := 64) hx hb dX4_cut_17 (by decide) ?_
    refine lv_bipush (v := 8) hx hb dX4_cut_19 (by decide) ?_
    refine lv_iload_n hx hb dX4_cut_21 rfl (lv_at hl 1 rfl) ?_
    refine lv_imul hx hb dX4_cut_22 ?_
    refine lv_isub hx hb dX4_cut_23 ?_
    refine lv_lshl hx hb dX4_cut_24 rfl ?_
    exact W.lret (v := (w >>> ((64 - (8 * (nI k))).toInt64 &&& 63)) <<< ((64 - (8 * (nI k))).toInt64 &&& 63)) hx hb hr (fun t ht hW => ⟨_, rfl, kf_ct w k hk (fun h => c_1 ((kf_n0 hk).mpr h)), ht⟩) (fun _ h => nomatch h) dX4_cut_25
  · refine lv_lconst (v := 0) hx hb dX4_cut_4 (by decide) ?_
    refine lv_goto (tgt := 25) hx hb dX4_cut_5 (by decide) ?_
    exact W.lret (v := 0) hx hb hr (fun t ht hW => ⟨_, rfl, by rw [(kf_n0 hk).mp c_1]; rfl, ht⟩) (fun _ h => nomatch h) dX4_cut_25

theorem kf_sh3 : ∀ k : Fin 8, ((56 - 8 * nI k.val).toInt64.toUInt64 &&& Int64.toUInt64 63).toNat % 64 = 56 - 8 * k.val := by decide +kernel
theorem kf_part (w : Int64) (k : Nat) (h : k < 8) : (w.toUInt64 >>> ((56 - 8 * nI k).toInt64.toUInt64 &&& Int64.toUInt64 63)).toInt64.toInt32 &&& 255 = nI (un w / 2 ^ (56 - 8 * k) % 256) := by
  rw [pk_and _ 8 (by decide), kf_lo]
  have h1 : un (w.toUInt64 >>> ((56 - 8 * nI k).toInt64.toUInt64 &&& Int64.toUInt64 63)).toInt64 = (w.toUInt64 >>> ((56 - 8 * nI k).toInt64.toUInt64 &&& Int64.toUInt64 63)).toNat := rfl
  rw [h1, UInt64.toNat_shiftRight, kf_sh3 ⟨k, h⟩, Nat.shiftRight_eq_div_pow]
  have h3 : w.toUInt64.toNat = un w := rfl
  rw [h3]
  congr 1
  show un w / 2 ^ (56 - 8 * k) % 4294967296 % 256 = _
  omega

set_option maxHeartbeats 4000000 in
set_option maxRecDepth 100000 in
theorem c_X4_part (l : Launch) (w : Int64) (k : Nat) (hk : k < 8) : Met l yX4_part wsX4_part { frames := 0, cells := 0, slots := 0, locals := 0 } (kz_P0 [.long w, .int (nI k)]) (vp_Si (fun r => r = nI (un w / 2 ^ (56 - 8 * k) % 256))) 0 0 (fun _ => False) := by
  refine Met.ofW (cc := cX4_part) (maxL := 3) (ret := (some .int)) (by decide) rfl ?_
  intro p e s m args below meth c s₁ B hml hv
  obtain ⟨rfl, -⟩ := hv
  have hx := B.exec
  have hb := B.bytes
  have hr := B.returns
  have hts := atoms_spec (ws := wsX4_part) B.pre
  have hown : s.vm.findClass RX4 = some m.cls := findClass_of_methodNamed B.named
  have hlocks := B.notSynchronized
  have hl := lv_entry ([.long w, .int (nI k)]) (n := 3) (Nat.le_of_ble_eq_true rfl)
  rw [lg_entry_eq]
  generalize (lg_sl ([.long w, .int (nI k)]) ++ List.replicate (3 - (lg_sl ([.long w, .int (nI k)])).length) Slot.unset).toArray = ls at hl ⊢
  have hl : lv_has ls 3 [(0, .long w), (2, .int (nI k))] := hl
  refine lv_lload_n hx hb dX4_part_0 rfl (lv_at hl 0 rfl) ?_
  refine lv_bipush (v := 56) hx hb dX4_part_1 (by decide) ?_
  refine lv_bipush (v := 8) hx hb dX4_part_3 (by decide) ?_
  refine lv_iload_n hx hb dX4_part_5 rfl (lv_at hl 1 rfl) ?_
  refine lv_imul hx hb dX4_part_6 ?_
  refine lv_isub hx hb dX4_part_7 ?_
  refine lv_lushr hx hb dX4_part_8 rfl ?_
  refine lv_l2i hx hb dX4_part_9 rfl ?_
  refine lv_sipush (v := 255) hx hb dX4_part_10 (by decide) ?_
  refine lv_iand hx hb dX4_part_13 ?_
  exact W.iret (v := (((w.toUInt64 >>> ((56 - (8 * (nI k))).toInt64.toUInt64 &&& Int64.toUInt64 63)).toInt64).toInt32) &&& 255) hx hb hr (fun t ht hW => ⟨_, rfl, kf_part w k hk, ht⟩) (fun _ h => nomatch h) dX4_part_14

set_option maxHeartbeats 4000000 in
set_option maxRecDepth 100000 in
theorem c_X0_sizeOf (l : Launch) (b : Nat) (hbb : b < 2 ^ 31) : Met l yX0_sizeOf wsX0_sizeOf { frames := 0, cells := 0, slots := 0, locals := 0 } (kz_P0 [.int (nI b)]) (vp_Si (fun r => r = nI (kf_sz b))) 0 0 (fun _ => False) := by
  refine Met.ofW (cc := cX0_sizeOf) (maxL := 1) (ret := (some .int)) (by decide) rfl ?_
  intro p e s m args below meth c s₁ B hml hv
  obtain ⟨rfl, -⟩ := hv
  have hx := B.exec
  have hb := B.bytes
  have hr := B.returns
  have hts := atoms_spec (ws := wsX0_sizeOf) B.pre
  have hown : s.vm.findClass RX0 = some m.cls := findClass_of_methodNamed B.named
  have hlocks := B.notSynchronized
  have hl := lv_entry ([.int (nI b)]) (n := 1) (Nat.le_of_ble_eq_true rfl)
  rw [lg_entry_eq]
  generalize (lg_sl ([.int (nI b)]) ++ List.replicate (1 - (lg_sl ([.int (nI b)])).length) Slot.unset).toArray = ls at hl ⊢
  have hl : lv_has ls 1 [(0, .int (nI b))] := hl
  refine lv_iload_n hx hb dX0_sizeOf_0 rfl (lv_at hl 0 rfl) ?_
  refine lv_iconst (v := 4) hx hb dX0_sizeOf_1 (by decide) ?_
  refine lv_icmp_gt (tgt := 7) hx hb dX0_sizeOf_2 (by decide) (fun c_1 => ?_) (fun c_1 => ?_)
  · have kc_1 : ¬ b ≤ 4 := fun h => absurd c_1 (Int32.not_lt.mpr (nI_le h (by decide)))
    refine lv_iload_n hx hb dX0_sizeOf_7 rfl (lv_at hl 0 rfl) ?_
    refine lv_bipush (v := 16) hx hb dX0_sizeOf_8 (by decide) ?_
    refine lv_icmp_gt (tgt := 15) hx hb dX0_sizeOf_10 (by decide) (fun c_2 => ?_) (fun c_2 => ?_)
    · have kc_2 : ¬ b ≤ 16 := fun h => absurd c_2 (Int32.not_lt.mpr (nI_le h (by decide)))
      refine lv_iload_n hx hb dX0_sizeOf_15 rfl (lv_at hl 0 rfl) ?_
      refine lv_bipush (v := 48) hx hb dX0_sizeOf_16 (by decide) ?_
      refine lv_icmp_gt (tgt := 25) hx hb dX0_sizeOf_18 (by decide) (fun c_3 => ?_) (fun c_3 => ?_)
      · have kc_3 : ¬ b ≤ 48 := fun h => absurd c_3 (Int32.not_lt.mpr (nI_le h (by decide)))
        refine lv_iconst (v := 3) hx hb dX0_sizeOf_25 (by decide) ?_
        exact W.iret (v := 3) hx hb hr (fun t ht hW => ⟨_, rfl, by show _ = nI (kf_sz b); unfold kf_sz; rw [if_neg kc_1, if_neg kc_2, if_neg kc_3]; rfl, ht⟩) (fun _ h => nomatch h) dX0_sizeOf_26
      · have kc_3 : b ≤ 48 := (nI_leI hbb (by decide)).mp (Int32.not_lt.mp c_3)
        refine lv_iconst (v := 2) hx hb dX0_sizeOf_21 (by decide) ?_
        refine lv_goto (tgt := 26) hx hb dX0_sizeOf_22 (by decide) ?_
        exact W.iret (v := 2) hx hb hr (fun t ht hW => ⟨_, rfl, by show _ = nI (kf_sz b); unfold kf_sz; rw [if_neg kc_1, if_neg kc_2, if_pos kc_3]; rfl, ht⟩) (fun _ h => nomatch h) dX0_sizeOf_26
    · have kc_2 : b ≤ 16 := (nI_leI hbb (by decide)).mp (Int32.not_lt.mp c_2)
      refine lv_iconst (v := 1) hx hb dX0_sizeOf_13 (by decide) ?_
      exact W.iret (v := 1) hx hb hr (fun t ht hW => ⟨_, rfl, by show _ = nI (kf_sz b); unfold kf_sz; rw [if_neg kc_1, if_pos kc_2]; rfl, ht⟩) (fun _ h => nomatch h) dX0_sizeOf_14
  · have kc_1 : b ≤ 4 := (nI_leI hbb (by decide)).mp (Int32.not_lt.mp c_1)
    refine lv_iconst (v := 0) hx hb dX0_sizeOf_5 (by decide) ?_
    exact W.iret (v := 0) hx hb hr (fun t ht hW => ⟨_, rfl, by show _ = nI (kf_sz b); unfold kf_sz; rw [if_pos kc_1]; rfl, ht⟩) (fun _ h => nomatch h) dX0_sizeOf_6

set_option maxHeartbeats 4000000 in
set_option maxRecDepth 100000 in
theorem c_X4_sizeOf (l : Launch) (b : Nat) (hbb : b < 2 ^ 31) : Met l yX4_sizeOf wsX4_sizeOf { frames := 0, cells := 0, slots := 0, locals := 0 } (kz_P0 [.int (nI b)]) (vp_Si (fun r => r = nI (kf_sz b))) 0 0 (fun _ => False) := by
  refine Met.ofW (cc := cX4_sizeOf) (maxL := 1) (ret := (some .int)) (by decide) rfl ?_
  intro p e s m args below meth c s₁ B hml hv
  obtain ⟨rfl, -⟩ := hv
  have hx := B.exec
  have hb := B.bytes
  have hr := B.returns
  have hts := atoms_spec (ws := wsX4_sizeOf) B.pre
  have hown : s.vm.findClass RX4 = some m.cls := findClass_of_methodNamed B.named
  have hlocks := B.notSynchronized
  have hl := lv_entry ([.int (nI b)]) (n := 1) (Nat.le_of_ble_eq_true rfl)
  rw [lg_entry_eq]
  generalize (lg_sl ([.int (nI b)]) ++ List.replicate (1 - (lg_sl ([.int (nI b)])).length) Slot.unset).toArray = ls at hl ⊢
  have hl : lv_has ls 1 [(0, .int (nI b))] := hl
  refine lv_iload_n hx hb dX4_sizeOf_0 rfl (lv_at hl 0 rfl) ?_
  refine lv_iconst (v := 5) hx hb dX4_sizeOf_1 (by decide) ?_
  refine lv_icmp_ge (tgt := 9) hx hb dX4_sizeOf_2 (by decide) (fun c_1 => ?_) (fun c_1 => ?_)
  · have kc_1 : ¬ b ≤ 4 := fun h => absurd ((nI_leI (a := 5) (by decide) hbb).mp c_1) (by omega)
    refine lv_iload_n hx hb dX4_sizeOf_9 rfl (lv_at hl 0 rfl) ?_
    refine lv_bipush (v := 17) hx hb dX4_sizeOf_10 (by decide) ?_
    refine lv_icmp_ge (tgt := 19) hx hb dX4_sizeOf_12 (by decide) (fun c_2 => ?_) (fun c_2 => ?_)
    · have kc_2 : ¬ b ≤ 16 := fun h => absurd ((nI_leI (a := 17) (by decide) hbb).mp c_2) (by omega)
      refine lv_iload_n hx hb dX4_sizeOf_19 rfl (lv_at hl 0 rfl) ?_
      refine lv_bipush (v := 49) hx hb dX4_sizeOf_20 (by decide) ?_
      refine lv_icmp_ge (tgt := 29) hx hb dX4_sizeOf_22 (by decide) (fun c_3 => ?_) (fun c_3 => ?_)
      · have kc_3 : ¬ b ≤ 48 := fun h => absurd ((nI_leI (a := 49) (by decide) hbb).mp c_3) (by omega)
        refine lv_iconst (v := 3) hx hb dX4_sizeOf_29 (by decide) ?_
        exact W.iret (v := 3) hx hb hr (fun t ht hW => ⟨_, rfl, by show _ = nI (kf_sz b); unfold kf_sz; rw [if_neg kc_1, if_neg kc_2, if_neg kc_3]; rfl, ht⟩) (fun _ h => nomatch h) dX4_sizeOf_30
      · have kc_3 : b ≤ 48 := by
          have h9 : ¬ 49 ≤ b := fun h => c_3 ((nI_leI (a := 49) (by decide) hbb).mpr h)
          omega
        refine lv_iconst (v := 2) hx hb dX4_sizeOf_25 (by decide) ?_
        refine lv_goto (tgt := 30) hx hb dX4_sizeOf_26 (by decide) ?_
        exact W.iret (v := 2) hx hb hr (fun t ht hW => ⟨_, rfl, by show _ = nI (kf_sz b); unfold kf_sz; rw [if_neg kc_1, if_neg kc_2, if_pos kc_3]; rfl, ht⟩) (fun _ h => nomatch h) dX4_sizeOf_30
    · have kc_2 : b ≤ 16 := by
        have h9 : ¬ 17 ≤ b := fun h => c_2 ((nI_leI (a := 17) (by decide) hbb).mpr h)
        omega
      refine lv_iconst (v := 1) hx hb dX4_sizeOf_15 (by decide) ?_
      refine lv_goto (tgt := 30) hx hb dX4_sizeOf_16 (by decide) ?_
      exact W.iret (v := 1) hx hb hr (fun t ht hW => ⟨_, rfl, by show _ = nI (kf_sz b); unfold kf_sz; rw [if_neg kc_1, if_pos kc_2]; rfl, ht⟩) (fun _ h => nomatch h) dX4_sizeOf_30
  · have kc_1 : b ≤ 4 := by
      have h9 : ¬ 5 ≤ b := fun h => c_1 ((nI_leI (a := 5) (by decide) hbb).mpr h)
      omega
    refine lv_iconst (v := 0) hx hb dX4_sizeOf_5 (by decide) ?_
    refine lv_goto (tgt := 30) hx hb dX4_sizeOf_6 (by decide) ?_
    exact W.iret (v := 0) hx hb hr (fun t ht hW => ⟨_, rfl, by show _ = nI (kf_sz b); unfold kf_sz; rw [if_pos kc_1]; rfl, ht⟩) (fun _ h => nomatch h) dX4_sizeOf_30

set_option maxHeartbeats 4000000 in
set_option maxRecDepth 100000 in
theorem c_X3_bytesInCommon (l : Launch) (aa : Int64) (za : Nat) (bb : Int64) (zb : Nat) (hza : za ≤ 8) (hzb : zb ≤ 8) : Met l yX3_bytesInCommon wsX3_bytesInCommon { frames := 2, cells := 0, slots := 0, locals := 43 } (kz_P0 [.long aa, .int (nI za), .long bb, .int (nI zb)]) (vp_Si (fun r => r = nI (kf_cm aa za bb zb))) 0 0 (fun _ => False) := by
  refine Met.ofW (cc := cX3_bytesInCommon) (maxL := 7) (ret := (some .int)) (by decide) rfl ?_
  intro p e s m args below meth c s₁ B hml hv
  obtain ⟨rfl, -⟩ := hv
  have hx := B.exec
  have hb := B.bytes
  have hr := B.returns
  have hts := atoms_spec (ws := wsX3_bytesInCommon) B.pre
  have hown : s.vm.findClass RX3 = some m.cls := findClass_of_methodNamed B.named
  have hlocks := B.notSynchronized
  have hl := lv_entry ([.long aa, .int (nI za), .long bb, .int (nI zb)]) (n := 7) (Nat.le_of_ble_eq_true rfl)
  rw [lg_entry_eq]
  generalize (lg_sl ([.long aa, .int (nI za), .long bb, .int (nI zb)]) ++ List.replicate (7 - (lg_sl ([.long aa, .int (nI za), .long bb, .int (nI zb)])).length) Slot.unset).toArray = ls at hl ⊢
  have hl : lv_has ls 7 [(0, .long aa), (2, .int (nI za)), (3, .long bb), (5, .int (nI zb))] := hl
  refine lv_lload_n hx hb dX3_bytesInCommon_0 rfl (lv_at hl 0 rfl) ?_
  refine lv_lload_n hx hb dX3_bytesInCommon_1 rfl (lv_at hl 2 rfl) ?_
  refine lv_lxor hx hb dX3_bytesInCommon_2 ?_
  refine vp_callSi (va_runS (As := [.long (aa ^^^ bb)]) (rest := []) ⟨hx, hb, hml, hown, hts⟩ (c_J13_numberOfLeadingZeros_95d88 l (aa ^^^ bb)) (va_cwS 1 hts gX3_bytesInCommon_J13_numberOfLeadingZeros_95d88 rfl rfl rfl (by decide +kernel) ⟨Nat.le_of_ble_eq_true rfl, Nat.le_of_ble_eq_true rfl⟩) kz_ps0 rfl rfl hl.1 rfl (lv_room (Nat.le_of_ble_eq_true rfl)) dX3_bytesInCommon_3 ⟨Nat.zero_le _, Nat.zero_le _⟩).run (fun r_1 h_2 => ?_)
  obtain ⟨n9, hn9, rfl, hz⟩ := h_2
  refine lv_bipush (v := 8) hx hb dX3_bytesInCommon_6 (by decide) ?_
  refine lv_idiv hx hb dX3_bytesInCommon_8 (by decide) ?_
  refine kz_asi (y := nI (kf_al aa bb)) (by rw [kf_div8 hn9, kf_alike hn9 hz]) ?_
  refine lv_istore (lv' := [(6, .int (nI (kf_al aa bb))), (0, .long aa), (2, .int (nI za)), (3, .long bb), (5, .int (nI zb))]) hx hb dX3_bytesInCommon_9 hl (by decide) rfl (fun ls hl => ?_)
  refine lv_iload hx hb dX3_bytesInCommon_11 (lv_at hl 0 rfl) ?_
  refine lv_iload_n hx hb dX3_bytesInCommon_13 rfl (lv_at hl 2 rfl) ?_
  refine lv_iload hx hb dX3_bytesInCommon_14 (lv_at hl 4 rfl) ?_
  refine va_mmin hx hb (by rw [hml]; exact hl.1.symm) hown (hts (.methodLink RX3 141 Lib.Math.min.name) (by decide +kernel)) (hts (.static Lib.Math.min.name) (by decide +kernel)) (hts (.initialized "java/lang/Math") (by decide +kernel)) (hts (.code Lib.Math.min.name Lib.Math.min.code 2 (some .int)) (by decide +kernel)) (Nat.le_of_ble_eq_true rfl) (Nat.le_of_ble_eq_true rfl) (Nat.zero_le _) (Nat.zero_le _) dX3_bytesInCommon_16 ?_
  refine kz_asi (y := nI (min za zb)) (kf_min (by omega) (by omega)) ?_
  refine va_mmin hx hb (by rw [hml]; exact hl.1.symm) hown (hts (.methodLink RX3 141 Lib.Math.min.name) (by decide +kernel)) (hts (.static Lib.Math.min.name) (by decide +kernel)) (hts (.initialized "java/lang/Math") (by decide +kernel)) (hts (.code Lib.Math.min.name Lib.Math.min.code 2 (some .int)) (by decide +kernel)) (Nat.le_of_ble_eq_true rfl) (Nat.le_of_ble_eq_true rfl) (Nat.zero_le _) (Nat.zero_le _) dX3_bytesInCommon_19 ?_
  refine kz_asi (y := nI (min (kf_al aa bb) (min za zb))) (kf_min (by have := kf_al_le aa bb; omega) (by omega)) ?_
  exact W.iret (v := nI (min (kf_al aa bb) (min za zb))) hx hb hr (fun t ht hW => ⟨_, rfl, rfl, ht⟩) (fun _ h => nomatch h) dX3_bytesInCommon_22
end
section
/-! loops: the locals (and the world) as a function of the number of turns -/
section KL
variable {p : Program} {l : Launch} {e : Env} {R : Room} {s : State} {m : MethodId} {args : Array Value} {below : List Frame} {meth : Method} {c : Code} {cells slots : Nat} {Q : State → Prop} {D : va_G} {cl : List vw_C} {A : Nat → Prop} {H0 : Heap}
theorem kz_loop {H : Heap} {locs : List Loc} (nL hd e9 : Nat) (LV : Nat → List (Nat × Value))
    (step : ∀ (i : Nat) (ls : Array Slot), i ≤ e9 → lv_has ls nL (LV i) → (∀ ls' : Array Slot, i + 1 ≤ e9 → lv_has ls' nL (LV (i + 1)) → W p l e R s m args below meth c H locs cells slots Q (F0 m hd ls' [])) → W p l e R s m args below meth c H locs cells slots Q (F0 m hd ls []))
    {i0 : Nat} {ls : Array Slot} (hi : i0 ≤ e9) (h : lv_has ls nL (LV i0)) : W p l e R s m args below meth c H locs cells slots Q (F0 m hd ls []) := by
  have key : ∀ (n i : Nat) (ls : Array Slot), i ≤ e9 → e9 ≤ i + n → lv_has ls nL (LV i) → W p l e R s m args below meth c H locs cells slots Q (F0 m hd ls []) := by
    intro n
    induction n with
    | zero => exact fun i ls h1 h2 h3 => step i ls h1 h3 (fun ls' h4 _ => absurd h4 (by omega))
    | succ n ih => exact fun i ls h1 h2 h3 => step i ls h1 h3 (fun ls' h4 h5 => ih (i + 1) ls' h4 (by omega) h5)
  exact key e9 i0 ls hi (by omega) h
theorem kz_loopf {H : Heap} {locs : List Loc} (nL hd e9 : Nat) (LV : Nat → List (Nat × Value)) (F : Nat → Prop)
    (step : ∀ (i : Nat) (ls : Array Slot), i ≤ e9 → lv_has ls nL (LV i) → F i → (∀ ls' : Array Slot, i + 1 ≤ e9 → lv_has ls' nL (LV (i + 1)) → F (i + 1) → W p l e R s m args below meth c H locs cells slots Q (F0 m hd ls' [])) → W p l e R s m args below meth c H locs cells slots Q (F0 m hd ls []))
    {i0 : Nat} {ls : Array Slot} (hi : i0 ≤ e9) (h : lv_has ls nL (LV i0)) (hF : F i0) : W p l e R s m args below meth c H locs cells slots Q (F0 m hd ls []) := by
  have key : ∀ (n i : Nat) (ls : Array Slot), i ≤ e9 → e9 ≤ i + n → lv_has ls nL (LV i) → F i → W p l e R s m args below meth c H locs cells slots Q (F0 m hd ls []) := by
    intro n
    induction n with
    | zero => exact fun i ls h1 h2 h3 hF => step i ls h1 h3 hF (fun ls' h4 _ _ => absurd h4 (by omega))
    | succ n ih => exact fun i ls h1 h2 h3 hF => step i ls h1 h3 hF (fun ls' h4 h5 hF => ih (i + 1) ls' h4 (by omega) h5 hF)
  exact key e9 i0 ls hi (by omega) h hF
theorem kz_loopm {H : Heap} {locs : List Loc} (nL hd e9 : Nat) (LV : Nat → List (Nat × Value)) (WV : Nat → va_W)
    (step : ∀ (i : Nat) (H : Heap) (locs : List Loc) (ls : Array Slot), i ≤ e9 → lv_has ls nL (LV i) → va_P D cl (WV i) H → va_D A (WV i) → va_S A H0 H locs → (∀ (H' : Heap) (locs' : List Loc) (ls' : Array Slot), i + 1 ≤ e9 → lv_has ls' nL (LV (i + 1)) → va_P D cl (WV (i + 1)) H' → va_D A (WV (i + 1)) → va_S A H0 H' locs' → W p l e R s m args below meth c H' locs' cells slots Q (F0 m hd ls' [])) → W p l e R s m args below meth c H locs cells slots Q (F0 m hd ls []))
    {i0 : Nat} {ls : Array Slot} (hi : i0 ≤ e9) (h : lv_has ls nL (LV i0)) (hP : va_P D cl (WV i0) H) (hD : va_D A (WV i0)) (hS : va_S A H0 H locs) : W p l e R s m args below meth c H locs cells slots Q (F0 m hd ls []) := by
  have key : ∀ (n i : Nat) (H : Heap) (locs : List Loc) (ls : Array Slot), i ≤ e9 → e9 ≤ i + n → lv_has ls nL (LV i) → va_P D cl (WV i) H → va_D A (WV i) → va_S A H0 H locs → W p l e R s m args below meth c H locs cells slots Q (F0 m hd ls []) := by
    intro n
    induction n with
    | zero => exact fun i H locs ls h1 h2 h3 h4 h5 h6 => step i H locs ls h1 h3 h4 h5 h6 (fun _ _ _ h9 _ _ _ _ => absurd h9 (by omega))
    | succ n ih => exact fun i H locs ls h1 h2 h3 h4 h5 h6 => step i H locs ls h1 h3 h4 h5 h6 (fun H' locs' ls' h7 h8 h9 h10 h11 => ih (i + 1) H' locs' ls' h7 (by omega) h8 h9 h10 h11)
  exact key e9 i0 H locs ls hi (by omega) h hP hD hS
end KL
/-! sizes as naturals -/
def kz_z (zs : Nat → Nat) : Nat → Int32 := fun j => nI (zs j)
def kz_un (zs : Nat → Nat) (k n : Nat) : Nat → Nat := fun j => if j = k then n else zs j
theorem kz_zu (zs : Nat → Nat) (k n : Nat) : kz_z (kz_un zs k n) = upd (kz_z zs) k (nI n) := by
  funext j
  unfold kz_z kz_un upd
  split <;> rfl
/-! what the rows of keys answer -/
/-- the key (a, z) comes before (b, y) -/
def kf_lt (a : Int64) (z : Nat) (b : Int64) (y : Nat) : Bool := decide (un a < un b) || (decide (a = b) && decide (z < y))
/-- from the i-th key on: the first place, in f steps at most, whose key doesn't come before (b, y) -/
def kf_cbn (fw : Nat → Int64) (zs : Nat → Nat) (b : Int64) (y : Nat) : Nat → Nat → Nat
  | 0, i => i
  | f + 1, i => if kf_lt (fw i) (zs i) b y then kf_cbn fw zs b y f (i + 1) else i
def kf_cb (fw : Nat → Int64) (zs : Nat → Nat) (b : Int64) (y nn : Nat) : Nat := kf_cbn fw zs b y nn 0
theorem kf_cbn_le (fw : Nat → Int64) (zs : Nat → Nat) (b : Int64) (y : Nat) : ∀ f i, kf_cbn fw zs b y f i ≤ i + f
  | 0, i => Nat.le_refl _
  | f + 1, i => by
    unfold kf_cbn
    split
    · have := kf_cbn_le fw zs b y f (i + 1)
      omega
    · omega
theorem kf_cb_le (fw : Nat → Int64) (zs : Nat → Nat) (b : Int64) (y nn : Nat) : kf_cb fw zs b y nn ≤ nn := by
  have := kf_cbn_le fw zs b y nn 0
  unfold kf_cb
  omega
/-- how many places below n have the property -/
def kf_cnt (P : Nat → Bool) : Nat → Nat
  | 0 => 0
  | n + 1 => kf_cnt P n + (if P n then 1 else 0)
theorem kf_cnt_le (P : Nat → Bool) : ∀ n, kf_cnt P n ≤ n
  | 0 => Nat.le_refl _
  | n + 1 => by
    have := kf_cnt_le P n
    unfold kf_cnt
    split <;> omega
theorem kf_cnt_y {P : Nat → Bool} {n : Nat} (h : P n = true) : kf_cnt P (n + 1) = kf_cnt P n + 1 := by rw [kf_cnt, if_pos h]
theorem kf_cnt_n {P : Nat → Bool} {n : Nat} (h : ¬ P n = true) : kf_cnt P (n + 1) = kf_cnt P n := by rw [kf_cnt, if_neg h]; rfl
/-! compareUnsigned, and the order -/
theorem kf_cu_pos {a b : Int64} : 0 < kf_cu a b ↔ un b < un a := by
  unfold kf_cu
  split
  · rename_i h
    exact ⟨fun z => absurd z (by decide), fun z => by omega⟩
  · split
    · rename_i h
      subst h
      exact ⟨fun z => absurd z (by decide), fun z => by omega⟩
    · rename_i h1 h2
      exact ⟨fun _ => by
        rcases Nat.lt_or_ge (un b) (un a) with h | h
        · exact h
        · exact absurd (un_inj (by omega)) h2, fun _ => by decide⟩
theorem kf_cu_zero {a b : Int64} : kf_cu a b = 0 ↔ a = b := by
  unfold kf_cu
  split
  · rename_i h
    exact ⟨fun z => absurd z (by decide), fun z => by subst z; omega⟩
  · split
    · rename_i h
      exact ⟨fun _ => h, fun _ => rfl⟩
    · rename_i h1 h2
      exact ⟨fun z => absurd z (by decide), fun z => absurd z h2⟩
end
section
theorem kf_if0 {P : Prop} {inst : Decidable P} (h : (if P then (1 : Int32) else 0) = 0) : ¬ P := fun hp => by rw [if_pos hp] at h; exact absurd h (by decide)
theorem kf_if1 {P : Prop} {inst : Decidable P} (h : ¬ (if P then (1 : Int32) else 0) = 0) : P := by
  rcases Decidable.em P with hp | hp
  · exact hp
  · rw [if_neg hp] at h; exact absurd rfl h
theorem kf_pl {pl : Int32} {nn : Nat} (hn : nn ≤ 120) (h : 0 ≤ pl ∧ pl < nI nn) : ∃ jj : Nat, jj < nn ∧ pl = nI jj := by
  obtain ⟨jj, h1, rfl⟩ := nI_of (x := pl) (Int32.not_lt.mpr h.1)
  exact ⟨jj, (nI_ltI h1 (by omega)).mp h.2, rfl⟩
theorem kf_plN {jj nn : Nat} (hj : jj < 2 ^ 31) (hn : nn < 2 ^ 31) : (0 ≤ nI jj ∧ nI jj < nI nn) ↔ jj < nn := ⟨fun h => (nI_ltI hj hn).mp h.2, fun h => ⟨nI_pos' hj, (nI_ltI hj hn).mpr h⟩⟩

set_option maxHeartbeats 4000000 in
set_option maxRecDepth 100000 in
theorem c_X1_count (l : Launch) (G : kz_G) (hk aw az an nn : Nat) (fw : Nat → Int64) (fz fv : Nat → Int32) : Met l yX1_count wsX1_count { frames := 0, cells := 0, slots := 0, locals := 0 } (kz_Pp G [.ref hk] [(hk, .inr (1, [.ref aw, .ref az, .ref an, .int (nI nn)])), (aw, .inl (gJ G, 120, .inr (.inl fw))), (az, .inl (gI G, 120, .inl fz)), (an, .inl (gI G, 120, .inl fv))]) (vp_Si (fun r => r = nI nn)) 0 0 (fun _ => False) := by
  refine Met.ofW (cc := cX1_count) (maxL := 1) (ret := (some .int)) (by decide) rfl ?_
  intro p e s m args below meth c s₁ B hml hv
  obtain ⟨rfl, hP, hK⟩ := hv
  have hx := B.exec
  have hb := B.bytes
  have hr := B.returns
  have hts := atoms_spec (ws := wsX1_count) B.pre
  have hown : s.vm.findClass RX1 = some m.cls := findClass_of_methodNamed B.named
  have hlocks := B.notSynchronized
  have hinX1 : ∀ w ∈ wsX10, w ∈ wsX1_count := by decide +kernel
  have hP : va_P G.1 vwCl [(hk, .inr (1, [.ref aw, .ref az, .ref an, .int (nI nn)])), (aw, .inl (gJ G, 120, .inr (.inl fw))), (az, .inl (gI G, 120, .inl fz)), (an, .inl (gI G, 120, .inl fv))] s.heap := hP
  have hl := lv_entry ([.ref hk]) (n := 1) (Nat.le_of_ble_eq_true rfl)
  rw [lg_entry_eq]
  generalize (lg_sl ([.ref hk]) ++ List.replicate (1 - (lg_sl ([.ref hk])).length) Slot.unset).toArray = ls at hl ⊢
  have hl : lv_has ls 1 [(0, .ref hk)] := hl
  refine lv_aload_n hx hb dX1_count_0 rfl (lv_at hl 0 rfl) ?_
  refine va_get (D := G.1) (ci := 1) (v := .int (nI nn)) (C := RX1) (T := TX1) (N := 4) hx hb hts hinX1 hown hK.1 hP 0 rfl rfl 3 (by decide) (hts (.fieldLink RX1 22 "ForkStore$Keys" "count" "I") (by decide +kernel)) (fun _ h9 => h9) rfl dX1_count_1 ?_
  exact W.iret (v := nI nn) hx hb hr (fun t ht hW => ⟨_, rfl, rfl, ht⟩) (fun _ h => nomatch h) dX1_count_4

set_option maxHeartbeats 4000000 in
set_option maxRecDepth 100000 in
theorem c_X1_isFull (l : Launch) (G : kz_G) (hk aw az an nn : Nat) (fw : Nat → Int64) (fz fv : Nat → Int32) (hn : nn ≤ 120) : Met l yX1_isFull wsX1_isFull { frames := 0, cells := 0, slots := 0, locals := 0 } (kz_Pp G [.ref hk] [(hk, .inr (1, [.ref aw, .ref az, .ref an, .int (nI nn)])), (aw, .inl (gJ G, 120, .inr (.inl fw))), (az, .inl (gI G, 120, .inl fz)), (an, .inl (gI G, 120, .inl fv))]) (vp_Si (fun r => r = if 120 ≤ nn then 1 else 0)) 0 0 (fun _ => False) := by
  refine Met.ofW (cc := cX1_isFull) (maxL := 1) (ret := (some .boolean)) (by decide) rfl ?_
  intro p e s m args below meth c s₁ B hml hv
  obtain ⟨rfl, hP, hK⟩ := hv
  have hx := B.exec
  have hb := B.bytes
  have hr := B.returns
  have hts := atoms_spec (ws := wsX1_isFull) B.pre
  have hown : s.vm.findClass RX1 = some m.cls := findClass_of_methodNamed B.named
  have hlocks := B.notSynchronized
  have hinX1 : ∀ w ∈ wsX10, w ∈ wsX1_isFull := by decide +kernel
  have hP : va_P G.1 vwCl [(hk, .inr (1, [.ref aw, .ref az, .ref an, .int (nI nn)])), (aw, .inl (gJ G, 120, .inr (.inl fw))), (az, .inl (gI G, 120, .inl fz)), (an, .inl (gI G, 120, .inl fv))] s.heap := hP
  have hl := lv_entry ([.ref hk]) (n := 1) (Nat.le_of_ble_eq_true rfl)
  rw [lg_entry_eq]
  generalize (lg_sl ([.ref hk]) ++ List.replicate (1 - (lg_sl ([.ref hk])).length) Slot.unset).toArray = ls at hl ⊢
  have hl : lv_has ls 1 [(0, .ref hk)] := hl
  refine lv_aload_n hx hb dX1_isFull_0 rfl (lv_at hl 0 rfl) ?_
  refine va_get (D := G.1) (ci := 1) (v := .int (nI nn)) (C := RX1) (T := TX1) (N := 4) hx hb hts hinX1 hown hK.1 hP 0 rfl rfl 3 (by decide) (hts (.fieldLink RX1 22 "ForkStore$Keys" "count" "I") (by decide +kernel)) (fun _ h9 => h9) rfl dX1_isFull_1 ?_
  refine lv_bipush (v := 120) hx hb dX1_isFull_4 (by decide) ?_
  refine lv_icmp_lt (tgt := 13) hx hb dX1_isFull_6 (by decide) (fun c_1 => ?_) (fun c_1 => ?_)
  · refine lv_iconst (v := 0) hx hb dX1_isFull_13 (by decide) ?_
    exact W.zret (v := 0) hx hb hr rfl (fun t ht hW => ⟨_, rfl, (if_neg (fun h => absurd ((nI_ltI (b := 120) (by omega) (by decide)).mp c_1) (by omega))).symm, ht⟩) (fun _ h => nomatch h) dX1_isFull_14
  · refine lv_iconst (v := 1) hx hb dX1_isFull_9 (by decide) ?_
    refine lv_goto (tgt := 14) hx hb dX1_isFull_10 (by decide) ?_
    exact W.zret (v := 1) hx hb hr rfl (fun t ht hW => ⟨_, rfl, (if_pos (by rcases Nat.lt_or_ge nn 120 with h | h; exact absurd ((nI_ltI (b := 120) (by omega) (by decide)).mpr h) c_1; exact h)).symm, ht⟩) (fun _ h => nomatch h) dX1_isFull_14

set_option maxHeartbeats 4000000 in
set_option maxRecDepth 100000 in
theorem c_X1_isPlace (l : Launch) (G : kz_G) (hk aw az an nn : Nat) (fw : Nat → Int64) (fz fv : Nat → Int32) (pl : Int32) : Met l yX1_isPlace wsX1_isPlace { frames := 0, cells := 0, slots := 0, locals := 0 } (kz_Pp G [.ref hk, .int pl] [(hk, .inr (1, [.ref aw, .ref az, .ref an, .int (nI nn)])), (aw, .inl (gJ G, 120, .inr (.inl fw))), (az, .inl (gI G, 120, .inl fz)), (an, .inl (gI G, 120, .inl fv))]) (vp_Si (fun r => r = if 0 ≤ pl ∧ pl < nI nn then 1 else 0)) 0 0 (fun _ => False) := by
  refine Met.ofW (cc := cX1_isPlace) (maxL := 2) (ret := (some .boolean)) (by decide) rfl ?_
  intro p e s m args below meth c s₁ B hml hv
  obtain ⟨rfl, hP, hK⟩ := hv
  have hx := B.exec
  have hb := B.bytes
  have hr := B.returns
  have hts := atoms_spec (ws := wsX1_isPlace) B.pre
  have hown : s.vm.findClass RX1 = some m.cls := findClass_of_methodNamed B.named
  have hlocks := B.notSynchronized
  have hinX1 : ∀ w ∈ wsX10, w ∈ wsX1_isPlace := by decide +kernel
  have hP : va_P G.1 vwCl [(hk, .inr (1, [.ref aw, .ref az, .ref an, .int (nI nn)])), (aw, .inl (gJ G, 120, .inr (.inl fw))), (az, .inl (gI G, 120, .inl fz)), (an, .inl (gI G, 120, .inl fv))] s.heap := hP
  have hl := lv_entry ([.ref hk, .int pl]) (n := 2) (Nat.le_of_ble_eq_true rfl)
  rw [lg_entry_eq]
  generalize (lg_sl ([.ref hk, .int pl]) ++ List.replicate (2 - (lg_sl ([.ref hk, .int pl])).length) Slot.unset).toArray = ls at hl ⊢
  have hl : lv_has ls 2 [(0, .ref hk), (1, .int pl)] := hl
  refine lv_iload_n hx hb dX1_isPlace_0 rfl (lv_at hl 1 rfl) ?_
  refine lv_if_lt (tgt := 16) hx hb dX1_isPlace_1 (by decide) (fun c_1 => ?_) (fun c_1 => ?_)
  · refine lv_iconst (v := 0) hx hb dX1_isPlace_16 (by decide) ?_
    exact W.zret (v := 0) hx hb hr rfl (fun t ht hW => ⟨_, rfl, (if_neg (fun h => absurd c_1 (Int32.not_lt.mpr h.1))).symm, ht⟩) (fun _ h => nomatch h) dX1_isPlace_17
  · refine lv_iload_n hx hb dX1_isPlace_4 rfl (lv_at hl 1 rfl) ?_
    refine lv_aload_n hx hb dX1_isPlace_5 rfl (lv_at hl 0 rfl) ?_
    refine va_get (D := G.1) (ci := 1) (v := .int (nI nn)) (C := RX1) (T := TX1) (N := 4) hx hb hts hinX1 hown hK.1 hP 0 rfl rfl 3 (by decide) (hts (.fieldLink RX1 22 "ForkStore$Keys" "count" "I") (by decide +kernel)) (fun _ h9 => h9) rfl dX1_isPlace_6 ?_
    refine lv_icmp_ge (tgt := 16) hx hb dX1_isPlace_9 (by decide) (fun c_2 => ?_) (fun c_2 => ?_)
    · refine lv_iconst (v := 0) hx hb dX1_isPlace_16 (by decide) ?_
      exact W.zret (v := 0) hx hb hr rfl (fun t ht hW => ⟨_, rfl, (if_neg (fun h => absurd h.2 (Int32.not_lt.mpr c_2))).symm, ht⟩) (fun _ h => nomatch h) dX1_isPlace_17
    · refine lv_iconst (v := 1) hx hb dX1_isPlace_12 (by decide) ?_
      refine lv_goto (tgt := 17) hx hb dX1_isPlace_13 (by decide) ?_
      exact W.zret (v := 1) hx hb hr rfl (fun t ht hW => ⟨_, rfl, (if_pos ⟨Int32.not_lt.mp c_1, Int32.not_le.mp c_2⟩).symm, ht⟩) (fun _ h => nomatch h) dX1_isPlace_17

set_option maxHeartbeats 4000000 in
set_option maxRecDepth 100000 in
theorem c_X1_wordAt (l : Launch) (G : kz_G) (hk aw az an nn : Nat) (fw : Nat → Int64) (fz fv : Nat → Int32) (pl : Int32) (hn : nn ≤ 120) : Met l yX1_wordAt wsX1_wordAt { frames := 1, cells := 0, slots := 0, locals := 21 } (kz_Pp G [.ref hk, .int pl] [(hk, .inr (1, [.ref aw, .ref az, .ref an, .int (nI nn)])), (aw, .inl (gJ G, 120, .inr (.inl fw))), (az, .inl (gI G, 120, .inl fz)), (an, .inl (gI G, 120, .inl fv))]) (vp_Sl (fun r => r = if 0 ≤ pl ∧ pl < nI nn then fw pl.toNatClampNeg else 0)) 0 0 (fun _ => False) := by
  refine Met.ofW (cc := cX1_wordAt) (maxL := 2) (ret := (some .long)) (by decide) rfl ?_
  intro p e s m args below meth c s₁ B hml hv
  obtain ⟨rfl, hP, hK⟩ := hv
  have hx := B.exec
  have hb := B.bytes
  have hr := B.returns
  have hts := atoms_spec (ws := wsX1_wordAt) B.pre
  have hown : s.vm.findClass RX1 = some m.cls := findClass_of_methodNamed B.named
  have hlocks := B.notSynchronized
  have hinX1 : ∀ w ∈ wsX10, w ∈ wsX1_wordAt := by decide +kernel
  have hP : va_P G.1 vwCl [(hk, .inr (1, [.ref aw, .ref az, .ref an, .int (nI nn)])), (aw, .inl (gJ G, 120, .inr (.inl fw))), (az, .inl (gI G, 120, .inl fz)), (an, .inl (gI G, 120, .inl fv))] s.heap := hP
  have hl := lv_entry ([.ref hk, .int pl]) (n := 2) (Nat.le_of_ble_eq_true rfl)
  rw [lg_entry_eq]
  generalize (lg_sl ([.ref hk, .int pl]) ++ List.replicate (2 - (lg_sl ([.ref hk, .int pl])).length) Slot.unset).toArray = ls at hl ⊢
  have hl : lv_has ls 2 [(0, .ref hk), (1, .int pl)] := hl
  refine lv_aload_n hx hb dX1_wordAt_0 rfl (lv_at hl 0 rfl) ?_
  refine lv_iload_n hx hb dX1_wordAt_1 rfl (lv_at hl 1 rfl) ?_
  have hPc := hP.sub (ws' := [(hk, .inr (1, [.ref aw, .ref az, .ref an, .int (nI nn)])), (aw, .inl (gJ G, 120, .inr (.inl fw))), (az, .inl (gI G, 120, .inl fz)), (an, .inl (gI G, 120, .inl fv))]) [0, 1, 2, 3] rfl
  refine kz_ci (v := if 0 ≤ pl ∧ pl < nI nn then 1 else 0) (va_runV (As := [.int pl]) (rest := []) ⟨hx, hb, hml, hown, hts⟩ (c_X1_isPlace l G hk aw az an nn fw fz fv pl ) (cwV 1 hts gX1_wordAt_X1_isPlace rfl rfl rfl (by decide +kernel) ⟨Nat.le_of_ble_eq_true rfl, Nat.le_of_ble_eq_true rfl⟩) (kz_pv hK hPc (va_recv hK.1 hPc (ci := 1) (q0 := 0) rfl rfl)) rfl rfl hl.1 rfl (lv_room (Nat.le_of_ble_eq_true rfl)) dX1_wordAt_2 ⟨Nat.zero_le _, Nat.zero_le _⟩).run ?_
  refine lv_if_eq (tgt := 17) hx hb dX1_wordAt_5 (by decide) (fun c_1 => ?_) (fun c_1 => ?_)
  · have kc_1 := kf_if0 c_1
    refine lv_lconst (v := 0) hx hb dX1_wordAt_17 (by decide) ?_
    exact W.lret (v := 0) hx hb hr (fun t ht hW => ⟨_, rfl, (if_neg kc_1).symm, ht⟩) (fun _ h => nomatch h) dX1_wordAt_18
  · have kc_1 := kf_if1 c_1
    obtain ⟨jj, hjj, rfl⟩ := kf_pl hn kc_1
    refine lv_aload_n hx hb dX1_wordAt_8 rfl (lv_at hl 0 rfl) ?_
    refine va_get (D := G.1) (ci := 1) (v := .ref aw) (C := RX1) (T := TX1) (N := 4) hx hb hts hinX1 hown hK.1 hP 0 rfl rfl 0 (by decide) (hts (.fieldLink RX1 9 "ForkStore$Keys" "words" "[J") (by decide +kernel)) (fun _ h9 => h9) rfl dX1_wordAt_9 ?_
    refine lv_iload_n hx hb dX1_wordAt_12 rfl (lv_at hl 1 rfl) ?_
    refine kz_lald hx hb hK.1 hP 1 1 rfl rfl (k := jj) (by omega) (by decide) dX1_wordAt_13 ?_
    refine lv_goto (tgt := 18) hx hb dX1_wordAt_14 (by decide) ?_
    exact W.lret (v := fw jj) hx hb hr (fun t ht hW => ⟨_, rfl, (by rw [if_pos kc_1, nI_clamp (by omega)]), ht⟩) (fun _ h => nomatch h) dX1_wordAt_18

set_option maxHeartbeats 4000000 in
set_option maxRecDepth 100000 in
theorem c_X1_sizeAt (l : Launch) (G : kz_G) (hk aw az an nn : Nat) (fw : Nat → Int64) (fz fv : Nat → Int32) (pl : Int32) (hn : nn ≤ 120) : Met l yX1_sizeAt wsX1_sizeAt { frames := 1, cells := 0, slots := 0, locals := 21 } (kz_Pp G [.ref hk, .int pl] [(hk, .inr (1, [.ref aw, .ref az, .ref an, .int (nI nn)])), (aw, .inl (gJ G, 120, .inr (.inl fw))), (az, .inl (gI G, 120, .inl fz)), (an, .inl (gI G, 120, .inl fv))]) (vp_Si (fun r => r = if 0 ≤ pl ∧ pl < nI nn then fz pl.toNatClampNeg else -1)) 0 0 (fun _ => False) := by
  refine Met.ofW (cc := cX1_sizeAt) (maxL := 2) (ret := (some .int)) (by decide) rfl ?_
  intro p e s m args below meth c s₁ B hml hv
  obtain ⟨rfl, hP, hK⟩ := hv
  have hx := B.exec
  have hb := B.bytes
  have hr := B.returns
  have hts := atoms_spec (ws := wsX1_sizeAt) B.pre
  have hown : s.vm.findClass RX1 = some m.cls := findClass_of_methodNamed B.named
  have hlocks := B.notSynchronized
  have hinX1 : ∀ w ∈ wsX10, w ∈ wsX1_sizeAt := by decide +kernel
  have hP : va_P G.1 vwCl [(hk, .inr (1, [.ref aw, .ref az, .ref an, .int (nI nn)])), (aw, .inl (gJ G, 120, .inr (.inl fw))), (az, .inl (gI G, 120, .inl fz)), (an, .inl (gI G, 120, .inl fv))] s.heap := hP
  have hl := lv_entry ([.ref hk, .int pl]) (n := 2) (Nat.le_of_ble_eq_true rfl)
  rw [lg_entry_eq]
  generalize (lg_sl ([.ref hk, .int pl]) ++ List.replicate (2 - (lg_sl ([.ref hk, .int pl])).length) Slot.unset).toArray = ls at hl ⊢
  have hl : lv_has ls 2 [(0, .ref hk), (1, .int pl)] := hl
  refine lv_aload_n hx hb dX1_sizeAt_0 rfl (lv_at hl 0 rfl) ?_
  refine lv_iload_n hx hb dX1_sizeAt_1 rfl (lv_at hl 1 rfl) ?_
  have hPc := hP.sub (ws' := [(hk, .inr (1, [.ref aw, .ref az, .ref an, .int (nI nn)])), (aw, .inl (gJ G, 120, .inr (.inl fw))), (az, .inl (gI G, 120, .inl fz)), (an, .inl (gI G, 120, .inl fv))]) [0, 1, 2, 3] rfl
  refine kz_ci (v := if 0 ≤ pl ∧ pl < nI nn then 1 else 0) (va_runV (As := [.int pl]) (rest := []) ⟨hx, hb, hml, hown, hts⟩ (c_X1_isPlace l G hk aw az an nn fw fz fv pl ) (cwV 1 hts gX1_sizeAt_X1_isPlace rfl rfl rfl (by decide +kernel) ⟨Nat.le_of_ble_eq_true rfl, Nat.le_of_ble_eq_true rfl⟩) (kz_pv hK hPc (va_recv hK.1 hPc (ci := 1) (q0 := 0) rfl rfl)) rfl rfl hl.1 rfl (lv_room (Nat.le_of_ble_eq_true rfl)) dX1_sizeAt_2 ⟨Nat.zero_le _, Nat.zero_le _⟩).run ?_
  refine lv_if_eq (tgt := 17) hx hb dX1_sizeAt_5 (by decide) (fun c_1 => ?_) (fun c_1 => ?_)
  · have kc_1 := kf_if0 c_1
    refine lv_iconst (v := (-1)) hx hb dX1_sizeAt_17 (by decide) ?_
    exact W.iret (v := (-1)) hx hb hr (fun t ht hW => ⟨_, rfl, (if_neg kc_1).symm, ht⟩) (fun _ h => nomatch h) dX1_sizeAt_18
  · have kc_1 := kf_if1 c_1
    obtain ⟨jj, hjj, rfl⟩ := kf_pl hn kc_1
    refine lv_aload_n hx hb dX1_sizeAt_8 rfl (lv_at hl 0 rfl) ?_
    refine va_get (D := G.1) (ci := 1) (v := .ref az) (C := RX1) (T := TX1) (N := 4) hx hb hts hinX1 hown hK.1 hP 0 rfl rfl 1 (by decide) (hts (.fieldLink RX1 15 "ForkStore$Keys" "sizes" "[I") (by decide +kernel)) (fun _ h9 => h9) rfl dX1_sizeAt_9 ?_
    refine lv_iload_n hx hb dX1_sizeAt_12 rfl (lv_at hl 1 rfl) ?_
    refine kz_iald hx hb hK.1 hP 2 0 rfl rfl (k := jj) (by omega) (by decide) dX1_sizeAt_13 ?_
    refine lv_goto (tgt := 18) hx hb dX1_sizeAt_14 (by decide) ?_
    exact W.iret (v := fz jj) hx hb hr (fun t ht hW => ⟨_, rfl, (by rw [if_pos kc_1, nI_clamp (by omega)]), ht⟩) (fun _ h => nomatch h) dX1_sizeAt_18

set_option maxHeartbeats 4000000 in
set_option maxRecDepth 100000 in
theorem c_X1_numberAt (l : Launch) (G : kz_G) (hk aw az an nn : Nat) (fw : Nat → Int64) (fz fv : Nat → Int32) (pl : Int32) (hn : nn ≤ 120) : Met l yX1_numberAt wsX1_numberAt { frames := 1, cells := 0, slots := 0, locals := 21 } (kz_Pp G [.ref hk, .int pl] [(hk, .inr (1, [.ref aw, .ref az, .ref an, .int (nI nn)])), (aw, .inl (gJ G, 120, .inr (.inl fw))), (az, .inl (gI G, 120, .inl fz)), (an, .inl (gI G, 120, .inl fv))]) (vp_Si (fun r => r = if 0 ≤ pl ∧ pl < nI nn then fv pl.toNatClampNeg else 0)) 0 0 (fun _ => False) := by
  refine Met.ofW (cc := cX1_numberAt) (maxL := 2) (ret := (some .int)) (by decide) rfl ?_
  intro p e s m args below meth c s₁ B hml hv
  obtain ⟨rfl, hP, hK⟩ := hv
  have hx := B.exec
  have hb := B.bytes
  have hr := B.returns
  have hts := atoms_spec (ws := wsX1_numberAt) B.pre
  have hown : s.vm.findClass RX1 = some m.cls := findClass_of_methodNamed B.named
  have hlocks := B.notSynchronized
  have hinX1 : ∀ w ∈ wsX10, w ∈ wsX1_numberAt := by decide +kernel
  have hP : va_P G.1 vwCl [(hk, .inr (1, [.ref aw, .ref az, .ref an, .int (nI nn)])), (aw, .inl (gJ G, 120, .inr (.inl fw))), (az, .inl (gI G, 120, .inl fz)), (an, .inl (gI G, 120, .inl fv))] s.heap := hP
  have hl := lv_entry ([.ref hk, .int pl]) (n := 2) (Nat.le_of_ble_eq_true rfl)
  rw [lg_entry_eq]
  generalize (lg_sl ([.ref hk, .int pl]) ++ List.replicate (2 - (lg_sl ([.ref hk, .int pl])).length) Slot.unset).toArray = ls at hl ⊢
  have hl : lv_has ls 2 [(0, .ref hk), (1, .int pl)] := hl
  refine lv_aload_n hx hb dX1_numberAt_0 rfl (lv_at hl 0 rfl) ?_
  refine lv_iload_n hx hb dX1_numberAt_1 rfl (lv_at hl 1 rfl) ?_
  have hPc := hP.sub (ws' := [(hk, .inr (1, [.ref aw, .ref az, .ref an, .int (nI nn)])), (aw, .inl (gJ G, 120, .inr (.inl fw))), (az, .inl (gI G, 120, .inl fz)), (an, .inl (gI G, 120, .inl fv))]) [0, 1, 2, 3] rfl
  refine kz_ci (v := if 0 ≤ pl ∧ pl < nI nn then 1 else 0) (va_runV (As := [.int pl]) (rest := []) ⟨hx, hb, hml, hown, hts⟩ (c_X1_isPlace l G hk aw az an nn fw fz fv pl ) (cwV 1 hts gX1_numberAt_X1_isPlace rfl rfl rfl (by decide +kernel) ⟨Nat.le_of_ble_eq_true rfl, Nat.le_of_ble_eq_true rfl⟩) (kz_pv hK hPc (va_recv hK.1 hPc (ci := 1) (q0 := 0) rfl rfl)) rfl rfl hl.1 rfl (lv_room (Nat.le_of_ble_eq_true rfl)) dX1_numberAt_2 ⟨Nat.zero_le _, Nat.zero_le _⟩).run ?_
  refine lv_if_eq (tgt := 17) hx hb dX1_numberAt_5 (by decide) (fun c_1 => ?_) (fun c_1 => ?_)
  · have kc_1 := kf_if0 c_1
    refine lv_iconst (v := 0) hx hb dX1_numberAt_17 (by decide) ?_
    exact W.iret (v := 0) hx hb hr (fun t ht hW => ⟨_, rfl, (if_neg kc_1).symm, ht⟩) (fun _ h => nomatch h) dX1_numberAt_18
  · have kc_1 := kf_if1 c_1
    obtain ⟨jj, hjj, rfl⟩ := kf_pl hn kc_1
    refine lv_aload_n hx hb dX1_numberAt_8 rfl (lv_at hl 0 rfl) ?_
    refine va_get (D := G.1) (ci := 1) (v := .ref an) (C := RX1) (T := TX1) (N := 4) hx hb hts hinX1 hown hK.1 hP 0 rfl rfl 2 (by decide) (hts (.fieldLink RX1 19 "ForkStore$Keys" "numbers" "[I") (by decide +kernel)) (fun _ h9 => h9) rfl dX1_numberAt_9 ?_
    refine lv_iload_n hx hb dX1_numberAt_12 rfl (lv_at hl 1 rfl) ?_
    refine kz_iald hx hb hK.1 hP 3 0 rfl rfl (k := jj) (by omega) (by decide) dX1_numberAt_13 ?_
    refine lv_goto (tgt := 18) hx hb dX1_numberAt_14 (by decide) ?_
    exact W.iret (v := fv jj) hx hb hr (fun t ht hW => ⟨_, rfl, (by rw [if_pos kc_1, nI_clamp (by omega)]), ht⟩) (fun _ h => nomatch h) dX1_numberAt_18

set_option maxHeartbeats 4000000 in
set_option maxRecDepth 100000 in
theorem c_X1_standsAt (l : Launch) (G : kz_G) (hk aw az an nn : Nat) (fw : Nat → Int64) (zs : Nat → Nat) (fv : Nat → Int32) (kk : Nat) (ww : Int64) (zz : Nat) (hn : nn ≤ 120) (hz : ∀ j, zs j ≤ 8) (hkk : kk ≤ 120) (hzz : zz ≤ 8) : Met l yX1_standsAt wsX1_standsAt { frames := 1, cells := 0, slots := 0, locals := 21 } (kz_Pp G [.ref hk, .int (nI kk), .long ww, .int (nI zz)] [(hk, .inr (1, [.ref aw, .ref az, .ref an, .int (nI nn)])), (aw, .inl (gJ G, 120, .inr (.inl fw))), (az, .inl (gI G, 120, .inl (kz_z zs))), (an, .inl (gI G, 120, .inl fv))]) (vp_Si (fun r => r = if kk < nn ∧ fw kk = ww ∧ zs kk = zz then 1 else 0)) 0 0 (fun _ => False) := by
  refine Met.ofW (cc := cX1_standsAt) (maxL := 5) (ret := (some .boolean)) (by decide) rfl ?_
  intro p e s m args below meth c s₁ B hml hv
  obtain ⟨rfl, hP, hK⟩ := hv
  have hx := B.exec
  have hb := B.bytes
  have hr := B.returns
  have hts := atoms_spec (ws := wsX1_standsAt) B.pre
  have hown : s.vm.findClass RX1 = some m.cls := findClass_of_methodNamed B.named
  have hlocks := B.notSynchronized
  have hinX1 : ∀ w ∈ wsX10, w ∈ wsX1_standsAt := by decide +kernel
  have hP : va_P G.1 vwCl [(hk, .inr (1, [.ref aw, .ref az, .ref an, .int (nI nn)])), (aw, .inl (gJ G, 120, .inr (.inl fw))), (az, .inl (gI G, 120, .inl (kz_z zs))), (an, .inl (gI G, 120, .inl fv))] s.heap := hP
  have hl := lv_entry ([.ref hk, .int (nI kk), .long ww, .int (nI zz)]) (n := 5) (Nat.le_of_ble_eq_true rfl)
  rw [lg_entry_eq]
  generalize (lg_sl ([.ref hk, .int (nI kk), .long ww, .int (nI zz)]) ++ List.replicate (5 - (lg_sl ([.ref hk, .int (nI kk), .long ww, .int (nI zz)])).length) Slot.unset).toArray = ls at hl ⊢
  have hl : lv_has ls 5 [(0, .ref hk), (1, .int (nI kk)), (2, .long ww), (4, .int (nI zz))] := hl
  refine lv_aload_n hx hb dX1_standsAt_0 rfl (lv_at hl 0 rfl) ?_
  refine lv_iload_n hx hb dX1_standsAt_1 rfl (lv_at hl 1 rfl) ?_
  have hPc := hP.sub (ws' := [(hk, .inr (1, [.ref aw, .ref az, .ref an, .int (nI nn)])), (aw, .inl (gJ G, 120, .inr (.inl fw))), (az, .inl (gI G, 120, .inl (kz_z zs))), (an, .inl (gI G, 120, .inl fv))]) [0, 1, 2, 3] rfl
  refine kz_ci (v := if 0 ≤ nI kk ∧ nI kk < nI nn then 1 else 0) (va_runV (As := [.int (nI kk)]) (rest := []) ⟨hx, hb, hml, hown, hts⟩ (c_X1_isPlace l G hk aw az an nn fw (kz_z zs) fv (nI kk) ) (cwV 1 hts gX1_standsAt_X1_isPlace rfl rfl rfl (by decide +kernel) ⟨Nat.le_of_ble_eq_true rfl, Nat.le_of_ble_eq_true rfl⟩) (kz_pv hK hPc (va_recv hK.1 hPc (ci := 1) (q0 := 0) rfl rfl)) rfl rfl hl.1 rfl (lv_room (Nat.le_of_ble_eq_true rfl)) dX1_standsAt_2 ⟨Nat.zero_le _, Nat.zero_le _⟩).run ?_
  refine lv_if_eq (tgt := 34) hx hb dX1_standsAt_5 (by decide) (fun c_1 => ?_) (fun c_1 => ?_)
  · have kc_1 : ¬ kk < nn := fun h => kf_if0 c_1 ((kf_plN (by omega) (by omega)).mpr h)
    refine lv_iconst (v := 0) hx hb dX1_standsAt_34 (by decide) ?_
    exact W.zret (v := 0) hx hb hr rfl (fun t ht hW => ⟨_, rfl, (if_neg (fun h => kc_1 h.1)).symm, ht⟩) (fun _ h => nomatch h) dX1_standsAt_35
  · have kc_1 : kk < nn := (kf_plN (by omega) (by omega)).mp (kf_if1 c_1)
    refine lv_aload_n hx hb dX1_standsAt_8 rfl (lv_at hl 0 rfl) ?_
    refine va_get (D := G.1) (ci := 1) (v := .ref aw) (C := RX1) (T := TX1) (N := 4) hx hb hts hinX1 hown hK.1 hP 0 rfl rfl 0 (by decide) (hts (.fieldLink RX1 9 "ForkStore$Keys" "words" "[J") (by decide +kernel)) (fun _ h9 => h9) rfl dX1_standsAt_9 ?_
    refine lv_iload_n hx hb dX1_standsAt_12 rfl (lv_at hl 1 rfl) ?_
    refine kz_lald hx hb hK.1 hP 1 1 rfl rfl (k := kk) (by omega) (by decide) dX1_standsAt_13 ?_
    refine lv_lload_n hx hb dX1_standsAt_14 rfl (lv_at hl 2 rfl) ?_
    refine W.lcmp hx hb dX1_standsAt_15 ?_
    refine lv_if_ne (tgt := 34) hx hb dX1_standsAt_16 (by decide) (fun c_2 => ?_) (fun c_2 => ?_)
    · refine lv_iconst (v := 0) hx hb dX1_standsAt_34 (by decide) ?_
      exact W.zret (v := 0) hx hb hr rfl (fun t ht hW => ⟨_, rfl, (if_neg (fun h => c_2 ((lg_cmp_eq _ _).mpr h.2.1))).symm, ht⟩) (fun _ h => nomatch h) dX1_standsAt_35
    · refine lv_aload_n hx hb dX1_standsAt_19 rfl (lv_at hl 0 rfl) ?_
      refine va_get (D := G.1) (ci := 1) (v := .ref az) (C := RX1) (T := TX1) (N := 4) hx hb hts hinX1 hown hK.1 hP 0 rfl rfl 1 (by decide) (hts (.fieldLink RX1 15 "ForkStore$Keys" "sizes" "[I") (by decide +kernel)) (fun _ h9 => h9) rfl dX1_standsAt_20 ?_
      refine lv_iload_n hx hb dX1_standsAt_23 rfl (lv_at hl 1 rfl) ?_
      refine kz_iald hx hb hK.1 hP 2 0 rfl rfl (k := kk) (by omega) (by decide) dX1_standsAt_24 ?_
      refine kz_asi (y := nI (zs kk)) rfl ?_
      refine lv_iload hx hb dX1_standsAt_25 (lv_at hl 3 rfl) ?_
      refine lv_icmp_ne (tgt := 34) hx hb dX1_standsAt_27 (by decide) (fun c_3 => ?_) (fun c_3 => ?_)
      · refine lv_iconst (v := 0) hx hb dX1_standsAt_34 (by decide) ?_
        exact W.zret (v := 0) hx hb hr rfl (fun t ht hW => ⟨_, rfl, (if_neg (fun h => c_3 (by rw [h.2.2]))).symm, ht⟩) (fun _ h => nomatch h) dX1_standsAt_35
      · refine lv_iconst (v := 1) hx hb dX1_standsAt_30 (by decide) ?_
        refine lv_goto (tgt := 35) hx hb dX1_standsAt_31 (by decide) ?_
        exact W.zret (v := 1) hx hb hr rfl (fun t ht hW => ⟨_, rfl, (if_pos ⟨kc_1, (lg_cmp_eq _ _).mp c_2, (nI_eq (by have := hz kk; omega) (by omega)).mp c_3⟩).symm, ht⟩) (fun _ h => nomatch h) dX1_standsAt_35

theorem kf_lt_iff {a : Int64} {z : Nat} {b : Int64} {y : Nat} : kf_lt a z b y = true ↔ (un a < un b ∨ (a = b ∧ z < y)) := by
  unfold kf_lt
  simp

set_option maxHeartbeats 4000000 in
set_option maxRecDepth 100000 in
theorem c_X1_countBefore (l : Launch) (G : kz_G) (hk aw az an nn : Nat) (fw : Nat → Int64) (zs : Nat → Nat) (fv : Nat → Int32) (ww : Int64) (zz : Nat) (hn : nn ≤ 120) (hz : ∀ j, zs j ≤ 8) (hzz : zz ≤ 8) : Met l yX1_countBefore wsX1_countBefore { frames := 2, cells := 0, slots := 0, locals := 46 } (kz_Pp G [.ref hk, .long ww, .int (nI zz)] [(hk, .inr (1, [.ref aw, .ref az, .ref an, .int (nI nn)])), (aw, .inl (gJ G, 120, .inr (.inl fw))), (az, .inl (gI G, 120, .inl (kz_z zs))), (an, .inl (gI G, 120, .inl fv))]) (vp_Si (fun r => r = nI (kf_cb fw zs ww zz nn))) 0 0 (fun _ => False) := by
  refine Met.ofW (cc := cX1_countBefore) (maxL := 6) (ret := (some .int)) (by decide) rfl ?_
  intro p e s m args below meth c s₁ B hml hv
  obtain ⟨rfl, hP, hK⟩ := hv
  have hx := B.exec
  have hb := B.bytes
  have hr := B.returns
  have hts := atoms_spec (ws := wsX1_countBefore) B.pre
  have hown : s.vm.findClass RX1 = some m.cls := findClass_of_methodNamed B.named
  have hlocks := B.notSynchronized
  have hinX1 : ∀ w ∈ wsX10, w ∈ wsX1_countBefore := by decide +kernel
  have hP : va_P G.1 vwCl [(hk, .inr (1, [.ref aw, .ref az, .ref an, .int (nI nn)])), (aw, .inl (gJ G, 120, .inr (.inl fw))), (az, .inl (gI G, 120, .inl (kz_z zs))), (an, .inl (gI G, 120, .inl fv))] s.heap := hP
  have hl := lv_entry ([.ref hk, .long ww, .int (nI zz)]) (n := 6) (Nat.le_of_ble_eq_true rfl)
  rw [lg_entry_eq]
  generalize (lg_sl ([.ref hk, .long ww, .int (nI zz)]) ++ List.replicate (6 - (lg_sl ([.ref hk, .long ww, .int (nI zz)])).length) Slot.unset).toArray = ls at hl ⊢
  have hl : lv_has ls 6 [(0, .ref hk), (1, .long ww), (3, .int (nI zz))] := hl
  refine lv_iconst (v := 0) hx hb dX1_countBefore_0 (by decide) ?_
  refine lv_istore (lv' := [(4, .int 0), (0, .ref hk), (1, .long ww), (3, .int (nI zz))]) hx hb dX1_countBefore_1 hl (by decide) rfl (fun ls hl => ?_)
  have hfin : kf_cbn fw zs ww zz (nn - 0) 0 = kf_cb fw zs ww zz nn := rfl
  have hl : lv_has ls 6 [(4, .int (nI 0)), (0, .ref hk), (1, .long ww), (3, .int (nI zz))] := lv_sub hl [0, 1, 2, 3] rfl
  refine kz_loopf (nL := 6) (hd := 3) (e9 := nn) (LV := fun ii => [(4, .int (nI ii)), (0, .ref hk), (1, .long ww), (3, .int (nI zz))]) (F := fun ii => kf_cbn fw zs ww zz (nn - ii) ii = kf_cb fw zs ww zz nn) (fun ii ls hii hl hfin ih => ?_) (Nat.zero_le _) hl hfin
  have hl : lv_has ls 6 [(4, .int (nI ii)), (0, .ref hk), (1, .long ww), (3, .int (nI zz))] := hl
  have hfin : kf_cbn fw zs ww zz (nn - ii) ii = kf_cb fw zs ww zz nn := hfin
  refine lv_iload hx hb dX1_countBefore_3 (lv_at hl 0 rfl) ?_
  refine lv_aload_n hx hb dX1_countBefore_5 rfl (lv_at hl 1 rfl) ?_
  refine va_get (D := G.1) (ci := 1) (v := .int (nI nn)) (C := RX1) (T := TX1) (N := 4) hx hb hts hinX1 hown hK.1 hP 0 rfl rfl 3 (by decide) (hts (.fieldLink RX1 22 "ForkStore$Keys" "count" "I") (by decide +kernel)) (fun _ h9 => h9) rfl dX1_countBefore_6 ?_
  refine lv_icmp_ge (tgt := 55) hx hb dX1_countBefore_9 (by decide) (fun c_1 => ?_) (fun c_1 => ?_)
  · have kc_1 : nn ≤ ii := (nI_leI (by omega) (by omega)).mp c_1
    refine lv_aload_n hx hb dX1_countBefore_55 rfl (lv_at hl 1 rfl) ?_
    refine va_get (D := G.1) (ci := 1) (v := .int (nI nn)) (C := RX1) (T := TX1) (N := 4) hx hb hts hinX1 hown hK.1 hP 0 rfl rfl 3 (by decide) (hts (.fieldLink RX1 22 "ForkStore$Keys" "count" "I") (by decide +kernel)) (fun _ h9 => h9) rfl dX1_countBefore_56 ?_
    have hq : nI nn = nI (kf_cb fw zs ww zz nn) := by
      rw [← hfin, show nn - ii = 0 from by omega, show nn = ii from by omega]
      rfl
    exact W.iret (v := nI nn) hx hb hr (fun t ht hW => ⟨_, rfl, hq, ht⟩) (fun _ h => nomatch h) dX1_countBefore_59
  · have kc_1 : ii < nn := Nat.lt_of_not_le (fun h => c_1 (nI_le h (by omega)))
    refine lv_aload_n hx hb dX1_countBefore_12 rfl (lv_at hl 1 rfl) ?_
    refine va_get (D := G.1) (ci := 1) (v := .ref aw) (C := RX1) (T := TX1) (N := 4) hx hb hts hinX1 hown hK.1 hP 0 rfl rfl 0 (by decide) (hts (.fieldLink RX1 9 "ForkStore$Keys" "words" "[J") (by decide +kernel)) (fun _ h9 => h9) rfl dX1_countBefore_13 ?_
    refine lv_iload hx hb dX1_countBefore_16 (lv_at hl 0 rfl) ?_
    refine kz_lald hx hb hK.1 hP 1 1 rfl rfl (k := ii) (by omega) (by decide) dX1_countBefore_18 ?_
    refine lv_lload_n hx hb dX1_countBefore_19 rfl (lv_at hl 2 rfl) ?_
    refine kz_ci (v := kf_cu (fw ii) ww) (va_runS (As := [.long (fw ii), .long ww]) (rest := []) ⟨hx, hb, hml, hown, hts⟩ (c_J13_compareUnsigned_74951 l (fw ii) ww) (va_cwS 2 hts gX1_countBefore_J13_compareUnsigned_74951 rfl rfl rfl (by decide +kernel) ⟨Nat.le_of_ble_eq_true rfl, Nat.le_of_ble_eq_true rfl⟩) kz_ps0 rfl rfl hl.1 rfl (lv_room (Nat.le_of_ble_eq_true rfl)) dX1_countBefore_20 ⟨Nat.zero_le _, Nat.zero_le _⟩).run ?_
    refine lv_istore (lv' := [(5, .int (kf_cu (fw ii) ww)), (4, .int (nI ii)), (0, .ref hk), (1, .long ww), (3, .int (nI zz))]) hx hb dX1_countBefore_23 hl (by decide) rfl (fun ls hl => ?_)
    refine lv_iload hx hb dX1_countBefore_25 (lv_at hl 0 rfl) ?_
    refine lv_if_gt (tgt := 46) hx hb dX1_countBefore_27 (by decide) (fun c_2 => ?_) (fun c_2 => ?_)
    · refine lv_iload hx hb dX1_countBefore_46 (lv_at hl 1 rfl) ?_
      have hq : nI ii = nI (kf_cb fw zs ww zz nn) := by
        have hno : ¬ kf_lt (fw ii) (zs ii) ww zz = true := fun h => by
          have h9 := kf_cu_pos.mp c_2
          rcases (kf_lt_iff.mp h) with h | h
          · omega
          · rw [h.1] at h9; omega
        rw [← hfin, show nn - ii = (nn - ii - 1) + 1 from by omega]
        unfold kf_cbn
        rw [if_neg hno]
      exact W.iret (v := nI ii) hx hb hr (fun t ht hW => ⟨_, rfl, hq, ht⟩) (fun _ h => nomatch h) dX1_countBefore_48
    · refine lv_iload hx hb dX1_countBefore_30 (lv_at hl 0 rfl) ?_
      refine lv_if_ne (tgt := 49) hx hb dX1_countBefore_32 (by decide) (fun c_3 => ?_) (fun c_3 => ?_)
      · refine lv_iinc (v := nI (ii + 1)) (lv' := [(4, .int (nI (ii + 1))), (5, .int (kf_cu (fw ii) ww)), (0, .ref hk), (1, .long ww), (3, .int (nI zz))]) hx hb dX1_countBefore_49 hl (k := 1) rfl (nI_1 ii) (by decide) rfl (fun ls hl => ?_)
        refine lv_goto (tgt := 3) hx hb dX1_countBefore_52 (by decide) ?_
        have hgo : kf_lt (fw ii) (zs ii) ww zz = true := by
          have h9 : ¬ un ww < un (fw ii) := fun h => c_2 (kf_cu_pos.mpr h)
          have h8 : ¬ fw ii = ww := fun h => c_3 (kf_cu_zero.mpr h)
          refine kf_lt_iff.mpr (Or.inl ?_)
          rcases Nat.lt_or_ge (un (fw ii)) (un ww) with h | h
          · exact h
          · exact absurd (un_inj (by omega)) h8
        have hfin2 : kf_cbn fw zs ww zz (nn - (ii + 1)) (ii + 1) = kf_cb fw zs ww zz nn := by
          rw [← hfin, show nn - ii = (nn - (ii + 1)) + 1 from by omega]
          conv => rhs; unfold kf_cbn
          rw [if_pos hgo]
        exact ih ls (by omega) (lv_sub hl [0, 2, 3, 4] rfl) hfin2
      · refine lv_aload_n hx hb dX1_countBefore_35 rfl (lv_at hl 2 rfl) ?_
        refine va_get (D := G.1) (ci := 1) (v := .ref az) (C := RX1) (T := TX1) (N := 4) hx hb hts hinX1 hown hK.1 hP 0 rfl rfl 1 (by decide) (hts (.fieldLink RX1 15 "ForkStore$Keys" "sizes" "[I") (by decide +kernel)) (fun _ h9 => h9) rfl dX1_countBefore_36 ?_
        refine lv_iload hx hb dX1_countBefore_39 (lv_at hl 1 rfl) ?_
        refine kz_iald hx hb hK.1 hP 2 0 rfl rfl (k := ii) (by omega) (by decide) dX1_countBefore_41 ?_
        refine kz_asi (y := nI (zs ii)) rfl ?_
        refine lv_iload_n hx hb dX1_countBefore_42 rfl (lv_at hl 4 rfl) ?_
        refine lv_icmp_lt (tgt := 49) hx hb dX1_countBefore_43 (by decide) (fun c_4 => ?_) (fun c_4 => ?_)
        · refine lv_iinc (v := nI (ii + 1)) (lv' := [(4, .int (nI (ii + 1))), (5, .int (kf_cu (fw ii) ww)), (0, .ref hk), (1, .long ww), (3, .int (nI zz))]) hx hb dX1_countBefore_49 hl (k := 1) rfl (nI_1 ii) (by decide) rfl (fun ls hl => ?_)
          refine lv_goto (tgt := 3) hx hb dX1_countBefore_52 (by decide) ?_
          have hgo : kf_lt (fw ii) (zs ii) ww zz = true := by
            exact kf_lt_iff.mpr (Or.inr ⟨kf_cu_zero.mp c_3, (nI_ltI (by have := hz ii; omega) (by omega)).mp c_4⟩)
          have hfin2 : kf_cbn fw zs ww zz (nn - (ii + 1)) (ii + 1) = kf_cb fw zs ww zz nn := by
            rw [← hfin, show nn - ii = (nn - (ii + 1)) + 1 from by omega]
            conv => rhs; unfold kf_cbn
            rw [if_pos hgo]
          exact ih ls (by omega) (lv_sub hl [0, 2, 3, 4] rfl) hfin2
        · refine lv_iload hx hb dX1_countBefore_46 (lv_at hl 1 rfl) ?_
          have hq : nI ii = nI (kf_cb fw zs ww zz nn) := by
            have hno : ¬ kf_lt (fw ii) (zs ii) ww zz = true := fun h => by
              have h8 := kf_cu_zero.mp c_3
              rcases (kf_lt_iff.mp h) with h | h
              · rw [h8] at h; omega
              · exact c_4 (nI_lt h.2 (by omega))
            rw [← hfin, show nn - ii = (nn - ii - 1) + 1 from by omega]
            unfold kf_cbn
            rw [if_neg hno]
          exact W.iret (v := nI ii) hx hb hr (fun t ht hW => ⟨_, rfl, hq, ht⟩) (fun _ h => nomatch h) dX1_countBefore_48
end
section
/-- the i-th key begins with (b, y) -/
def kf_bw (fw : Nat → Int64) (zs : Nat → Nat) (b : Int64) (y : Nat) : Nat → Bool := fun j => decide (kf_cm (fw j) (zs j) b y = y)
/-- the length of the fork between the i-th key and the next -/
def kf_fk (fw : Nat → Int64) (zs : Nat → Nat) (i : Nat) : Nat := kf_cm (fw i) (zs i) (fw (i + 1)) (zs (i + 1))
theorem kf_cm_le (a : Int64) (z : Nat) (b : Int64) (y : Nat) : kf_cm a z b y ≤ 8 := by
  have := kf_al_le a b
  unfold kf_cm
  omega
theorem kf_fk_le (fw : Nat → Int64) (zs : Nat → Nat) (i : Nat) : kf_fk fw zs i ≤ 8 := kf_cm_le _ _ _ _
/-- the lengths of the forks, among the first i, that (b, y) begins with: a bit each -/
def kf_mk (fw : Nat → Int64) (zs : Nat → Nat) (b : Int64) (y : Nat) : Nat → Nat
  | 0 => 0
  | i + 1 => if kf_fk fw zs i ≤ kf_cm (fw i) (zs i) b y then kf_mk fw zs b y i ||| 2 ^ kf_fk fw zs i else kf_mk fw zs b y i
theorem kf_mk_lt (fw : Nat → Int64) (zs : Nat → Nat) (b : Int64) (y : Nat) : ∀ i, kf_mk fw zs b y i < 512
  | 0 => by show (0 : Nat) < 512; decide
  | i + 1 => by
    have h := kf_mk_lt fw zs b y i
    have h8 := kf_fk_le fw zs i
    unfold kf_mk
    split
    · have : 2 ^ kf_fk fw zs i < 2 ^ 9 := Nat.pow_lt_pow_right (by decide) (by omega)
      exact Nat.or_lt_two_pow (n := 9) h this
    · exact h
theorem kf_sh4 : ∀ f : Fin 9, (1 : Int32) <<< (nI f.val &&& 31) = nI (2 ^ f.val) := by decide +kernel
theorem kf_or (a b : Nat) : nI a ||| nI b = nI (a ||| b) := by
  apply Int32.toBitVec_inj.mp
  show BitVec.ofNat 32 a ||| BitVec.ofNat 32 b = BitVec.ofNat 32 (a ||| b)
  exact BitVec.ofNat_or.symm

set_option maxHeartbeats 4000000 in
set_option maxRecDepth 100000 in
theorem c_X1_countBeginningWith (l : Launch) (G : kz_G) (hk aw az an nn : Nat) (fw : Nat → Int64) (zs : Nat → Nat) (fv : Nat → Int32) (ww : Int64) (zz : Nat) (hn : nn ≤ 120) (hz : ∀ j, zs j ≤ 8) (hzz : zz ≤ 8) : Met l yX1_countBeginningWith wsX1_countBeginningWith { frames := 3, cells := 0, slots := 0, locals := 69 } (kz_Pp G [.ref hk, .long ww, .int (nI zz)] [(hk, .inr (1, [.ref aw, .ref az, .ref an, .int (nI nn)])), (aw, .inl (gJ G, 120, .inr (.inl fw))), (az, .inl (gI G, 120, .inl (kz_z zs))), (an, .inl (gI G, 120, .inl fv))]) (vp_Si (fun r => r = nI (kf_cnt (kf_bw fw zs ww zz) nn))) 0 0 (fun _ => False) := by
  refine Met.ofW (cc := cX1_countBeginningWith) (maxL := 6) (ret := (some .int)) (by decide) rfl ?_
  intro p e s m args below meth c s₁ B hml hv
  obtain ⟨rfl, hP, hK⟩ := hv
  have hx := B.exec
  have hb := B.bytes
  have hr := B.returns
  have hts := atoms_spec (ws := wsX1_countBeginningWith) B.pre
  have hown : s.vm.findClass RX1 = some m.cls := findClass_of_methodNamed B.named
  have hlocks := B.notSynchronized
  have hinX1 : ∀ w ∈ wsX10, w ∈ wsX1_countBeginningWith := by decide +kernel
  have hP : va_P G.1 vwCl [(hk, .inr (1, [.ref aw, .ref az, .ref an, .int (nI nn)])), (aw, .inl (gJ G, 120, .inr (.inl fw))), (az, .inl (gI G, 120, .inl (kz_z zs))), (an, .inl (gI G, 120, .inl fv))] s.heap := hP
  have hl := lv_entry ([.ref hk, .long ww, .int (nI zz)]) (n := 6) (Nat.le_of_ble_eq_true rfl)
  rw [lg_entry_eq]
  generalize (lg_sl ([.ref hk, .long ww, .int (nI zz)]) ++ List.replicate (6 - (lg_sl ([.ref hk, .long ww, .int (nI zz)])).length) Slot.unset).toArray = ls at hl ⊢
  have hl : lv_has ls 6 [(0, .ref hk), (1, .long ww), (3, .int (nI zz))] := hl
  refine lv_iconst (v := 0) hx hb dX1_countBeginningWith_0 (by decide) ?_
  refine lv_istore (lv' := [(4, .int 0), (0, .ref hk), (1, .long ww), (3, .int (nI zz))]) hx hb dX1_countBeginningWith_1 hl (by decide) rfl (fun ls hl => ?_)
  refine lv_iconst (v := 0) hx hb dX1_countBeginningWith_3 (by decide) ?_
  refine lv_istore (lv' := [(5, .int 0), (4, .int 0), (0, .ref hk), (1, .long ww), (3, .int (nI zz))]) hx hb dX1_countBeginningWith_4 hl (by decide) rfl (fun ls hl => ?_)
  refine kz_loop (nL := 6) (hd := 6) (e9 := nn) (i0 := 0) (LV := fun ii => [(4, .int (nI (kf_cnt (kf_bw fw zs ww zz) ii))), (5, .int (nI ii)), (0, .ref hk), (1, .long ww), (3, .int (nI zz))]) (fun ii ls hii hl ih => ?_) (Nat.zero_le _) (lv_sub hl [1, 0, 2, 3, 4] rfl)
  have hl : lv_has ls 6 [(4, .int (nI (kf_cnt (kf_bw fw zs ww zz) ii))), (5, .int (nI ii)), (0, .ref hk), (1, .long ww), (3, .int (nI zz))] := hl
  refine lv_iload hx hb dX1_countBeginningWith_6 (lv_at hl 1 rfl) ?_
  refine lv_aload_n hx hb dX1_countBeginningWith_8 rfl (lv_at hl 2 rfl) ?_
  refine va_get (D := G.1) (ci := 1) (v := .int (nI nn)) (C := RX1) (T := TX1) (N := 4) hx hb hts hinX1 hown hK.1 hP 0 rfl rfl 3 (by decide) (hts (.fieldLink RX1 22 "ForkStore$Keys" "count" "I") (by decide +kernel)) (fun _ h9 => h9) rfl dX1_countBeginningWith_9 ?_
  refine lv_icmp_ge (tgt := 47) hx hb dX1_countBeginningWith_12 (by decide) (fun c_1 => ?_) (fun c_1 => ?_)
  · have kc_1 : nn ≤ ii := (nI_leI (by omega) (by omega)).mp c_1
    refine lv_iload hx hb dX1_countBeginningWith_47 (lv_at hl 0 rfl) ?_
    obtain rfl : ii = nn := by omega
    exact W.iret (v := nI (kf_cnt (kf_bw fw zs ww zz) ii)) hx hb hr (fun t ht hW => ⟨_, rfl, rfl, ht⟩) (fun _ h => nomatch h) dX1_countBeginningWith_49
  · have kc_1 : ii < nn := Nat.lt_of_not_le (fun h => c_1 (nI_le h (by omega)))
    have hzi := hz ii
    refine lv_aload_n hx hb dX1_countBeginningWith_15 rfl (lv_at hl 2 rfl) ?_
    refine va_get (D := G.1) (ci := 1) (v := .ref aw) (C := RX1) (T := TX1) (N := 4) hx hb hts hinX1 hown hK.1 hP 0 rfl rfl 0 (by decide) (hts (.fieldLink RX1 9 "ForkStore$Keys" "words" "[J") (by decide +kernel)) (fun _ h9 => h9) rfl dX1_countBeginningWith_16 ?_
    refine lv_iload hx hb dX1_countBeginningWith_19 (lv_at hl 1 rfl) ?_
    refine kz_lald hx hb hK.1 hP 1 1 rfl rfl (k := ii) (by omega) (by decide) dX1_countBeginningWith_21 ?_
    refine lv_aload_n hx hb dX1_countBeginningWith_22 rfl (lv_at hl 2 rfl) ?_
    refine va_get (D := G.1) (ci := 1) (v := .ref az) (C := RX1) (T := TX1) (N := 4) hx hb hts hinX1 hown hK.1 hP 0 rfl rfl 1 (by decide) (hts (.fieldLink RX1 15 "ForkStore$Keys" "sizes" "[I") (by decide +kernel)) (fun _ h9 => h9) rfl dX1_countBeginningWith_23 ?_
    refine lv_iload hx hb dX1_countBeginningWith_26 (lv_at hl 1 rfl) ?_
    refine kz_iald hx hb hK.1 hP 2 0 rfl rfl (k := ii) (by omega) (by decide) dX1_countBeginningWith_28 ?_
    refine kz_asi (y := nI (zs ii)) rfl ?_
    refine lv_lload_n hx hb dX1_countBeginningWith_29 rfl (lv_at hl 3 rfl) ?_
    refine lv_iload_n hx hb dX1_countBeginningWith_30 rfl (lv_at hl 4 rfl) ?_
    refine kz_ci (v := nI (kf_cm (fw ii) (zs ii) ww zz)) (va_runSN (As := [.long (fw ii), .int (nI (zs ii)), .long ww, .int (nI zz)]) (rest := []) ⟨hx, hb, hml, hown, hts⟩ (c_X3_bytesInCommon l (fw ii) (zs ii) ww zz (by omega) (by omega)) ⟨(va_cnB 4 hts gX1_countBeginningWith_X3_bytesInCommon_n36 rfl rfl rfl hK.2 (hts (.initialized RX3) (by decide +kernel)) (by decide +kernel) ⟨Nat.le_of_ble_eq_true rfl, Nat.le_of_ble_eq_true rfl⟩), hts (.static yX3_bytesInCommon) (by decide +kernel), trivial⟩ kz_ps0 rfl rfl hl.1 rfl (lv_room (Nat.le_of_ble_eq_true rfl)) dX1_countBeginningWith_31 ⟨Nat.zero_le _, Nat.zero_le _⟩).run ?_
    refine lv_iload_n hx hb dX1_countBeginningWith_34 rfl (lv_at hl 4 rfl) ?_
    refine lv_icmp_ne (tgt := 41) hx hb dX1_countBeginningWith_35 (by decide) (fun c_2 => ?_) (fun c_2 => ?_)
    · have hno : ¬ kf_bw fw zs ww zz ii = true := fun h => c_2 (by rw [of_decide_eq_true h])
      refine lv_iinc (v := nI (ii + 1)) (lv' := [(5, .int (nI (ii + 1))), (4, .int (nI (kf_cnt (kf_bw fw zs ww zz) ii))), (0, .ref hk), (1, .long ww), (3, .int (nI zz))]) hx hb dX1_countBeginningWith_41 hl (k := 1) rfl (nI_1 ii) (by decide) rfl (fun ls hl => ?_)
      refine lv_goto (tgt := 6) hx hb dX1_countBeginningWith_44 (by decide) ?_
      exact ih ls (by omega) (by have e9 := kf_cnt_n hno; simp only [e9]; exact lv_sub hl [1, 0, 2, 3, 4] rfl)
    · have hyes : kf_bw fw zs ww zz ii = true := decide_eq_true ((nI_eq (by have := kf_cm_le (fw ii) (zs ii) ww zz; omega) (by omega)).mp c_2)
      refine lv_iinc (v := nI (kf_cnt (kf_bw fw zs ww zz) (ii + 1))) (lv' := [(4, .int (nI (kf_cnt (kf_bw fw zs ww zz) (ii + 1)))), (5, .int (nI ii)), (0, .ref hk), (1, .long ww), (3, .int (nI zz))]) hx hb dX1_countBeginningWith_38 hl (k := 0) rfl (by rw [kf_cnt_y hyes]; exact nI_1 _) (by decide) rfl (fun ls hl => ?_)
      refine lv_iinc (v := nI (ii + 1)) (lv' := [(5, .int (nI (ii + 1))), (4, .int (nI (kf_cnt (kf_bw fw zs ww zz) (ii + 1)))), (0, .ref hk), (1, .long ww), (3, .int (nI zz))]) hx hb dX1_countBeginningWith_41 hl (k := 1) rfl (nI_1 ii) (by decide) rfl (fun ls hl => ?_)
      refine lv_goto (tgt := 6) hx hb dX1_countBeginningWith_44 (by decide) ?_
      exact ih ls (by omega) (lv_sub hl [1, 0, 2, 3, 4] rfl)

set_option maxHeartbeats 4000000 in
set_option maxRecDepth 100000 in
theorem c_X1_forkBehind (l : Launch) (G : kz_G) (hk aw az an nn : Nat) (fw : Nat → Int64) (zs : Nat → Nat) (fv : Nat → Int32) (kk : Nat) (hn : nn ≤ 120) (hz : ∀ j, zs j ≤ 8) (hkk : kk + 1 < nn) : Met l yX1_forkBehind wsX1_forkBehind { frames := 3, cells := 0, slots := 0, locals := 69 } (kz_Pp G [.ref hk, .int (nI kk)] [(hk, .inr (1, [.ref aw, .ref az, .ref an, .int (nI nn)])), (aw, .inl (gJ G, 120, .inr (.inl fw))), (az, .inl (gI G, 120, .inl (kz_z zs))), (an, .inl (gI G, 120, .inl fv))]) (vp_Si (fun r => r = nI (kf_fk fw zs kk))) 0 0 (fun _ => False) := by
  refine Met.ofW (cc := cX1_forkBehind) (maxL := 2) (ret := (some .int)) (by decide) rfl ?_
  intro p e s m args below meth c s₁ B hml hv
  obtain ⟨rfl, hP, hK⟩ := hv
  have hx := B.exec
  have hb := B.bytes
  have hr := B.returns
  have hts := atoms_spec (ws := wsX1_forkBehind) B.pre
  have hown : s.vm.findClass RX1 = some m.cls := findClass_of_methodNamed B.named
  have hlocks := B.notSynchronized
  have hinX1 : ∀ w ∈ wsX10, w ∈ wsX1_forkBehind := by decide +kernel
  have hP : va_P G.1 vwCl [(hk, .inr (1, [.ref aw, .ref az, .ref an, .int (nI nn)])), (aw, .inl (gJ G, 120, .inr (.inl fw))), (az, .inl (gI G, 120, .inl (kz_z zs))), (an, .inl (gI G, 120, .inl fv))] s.heap := hP
  have hl := lv_entry ([.ref hk, .int (nI kk)]) (n := 2) (Nat.le_of_ble_eq_true rfl)
  rw [lg_entry_eq]
  generalize (lg_sl ([.ref hk, .int (nI kk)]) ++ List.replicate (2 - (lg_sl ([.ref hk, .int (nI kk)])).length) Slot.unset).toArray = ls at hl ⊢
  have hl : lv_has ls 2 [(0, .ref hk), (1, .int (nI kk))] := hl
  refine lv_aload_n hx hb dX1_forkBehind_0 rfl (lv_at hl 0 rfl) ?_
  refine lv_iload_n hx hb dX1_forkBehind_1 rfl (lv_at hl 1 rfl) ?_
  have hPc := hP.sub (ws' := [(hk, .inr (1, [.ref aw, .ref az, .ref an, .int (nI nn)])), (aw, .inl (gJ G, 120, .inr (.inl fw))), (az, .inl (gI G, 120, .inl (kz_z zs))), (an, .inl (gI G, 120, .inl fv))]) [0, 1, 2, 3] rfl
  refine kz_ci (v := if 0 ≤ nI kk ∧ nI kk < nI nn then 1 else 0) (va_runV (As := [.int (nI kk)]) (rest := []) ⟨hx, hb, hml, hown, hts⟩ (c_X1_isPlace l G hk aw az an nn fw (kz_z zs) fv (nI kk) ) (cwV 1 hts gX1_forkBehind_X1_isPlace rfl rfl rfl (by decide +kernel) ⟨Nat.le_of_ble_eq_true rfl, Nat.le_of_ble_eq_true rfl⟩) (kz_pv hK hPc (va_recv hK.1 hPc (ci := 1) (q0 := 0) rfl rfl)) rfl rfl hl.1 rfl (lv_room (Nat.le_of_ble_eq_true rfl)) dX1_forkBehind_2 ⟨Nat.zero_le _, Nat.zero_le _⟩).run ?_
  refine lv_if_eq (tgt := 18) hx hb dX1_forkBehind_5 (by decide) (fun c_1 => ?_) (fun c_1 => ?_)
  · exact absurd ((kf_plN (by omega) (by omega)).mpr (by omega)) (kf_if0 c_1)
  · have hz1 := hz kk
    have hz2 := hz (kk + 1)
    refine lv_aload_n hx hb dX1_forkBehind_8 rfl (lv_at hl 0 rfl) ?_
    refine lv_iload_n hx hb dX1_forkBehind_9 rfl (lv_at hl 1 rfl) ?_
    refine lv_iconst (v := 1) hx hb dX1_forkBehind_10 (by decide) ?_
    refine lv_iadd hx hb dX1_forkBehind_11 ?_
    refine kz_asi (y := nI (kk + 1)) (nI_1 kk) ?_
    have hPc := hP.sub (ws' := [(hk, .inr (1, [.ref aw, .ref az, .ref an, .int (nI nn)])), (aw, .inl (gJ G, 120, .inr (.inl fw))), (az, .inl (gI G, 120, .inl (kz_z zs))), (an, .inl (gI G, 120, .inl fv))]) [0, 1, 2, 3] rfl
    refine kz_ci (v := if 0 ≤ nI (kk + 1) ∧ nI (kk + 1) < nI nn then 1 else 0) (va_runV (As := [.int (nI (kk + 1))]) (rest := []) ⟨hx, hb, hml, hown, hts⟩ (c_X1_isPlace l G hk aw az an nn fw (kz_z zs) fv (nI (kk + 1)) ) (cwV 1 hts gX1_forkBehind_X1_isPlace rfl rfl rfl (by decide +kernel) ⟨Nat.le_of_ble_eq_true rfl, Nat.le_of_ble_eq_true rfl⟩) (kz_pv hK hPc (va_recv hK.1 hPc (ci := 1) (q0 := 0) rfl rfl)) rfl rfl hl.1 rfl (lv_room (Nat.le_of_ble_eq_true rfl)) dX1_forkBehind_12 ⟨Nat.zero_le _, Nat.zero_le _⟩).run ?_
    refine lv_if_ne (tgt := 20) hx hb dX1_forkBehind_15 (by decide) (fun c_2 => ?_) (fun c_2 => ?_)
    · refine lv_aload_n hx hb dX1_forkBehind_20 rfl (lv_at hl 0 rfl) ?_
      refine va_get (D := G.1) (ci := 1) (v := .ref aw) (C := RX1) (T := TX1) (N := 4) hx hb hts hinX1 hown hK.1 hP 0 rfl rfl 0 (by decide) (hts (.fieldLink RX1 9 "ForkStore$Keys" "words" "[J") (by decide +kernel)) (fun _ h9 => h9) rfl dX1_forkBehind_21 ?_
      refine lv_iload_n hx hb dX1_forkBehind_24 rfl (lv_at hl 1 rfl) ?_
      refine kz_lald hx hb hK.1 hP 1 1 rfl rfl (k := kk) (by omega) (by decide) dX1_forkBehind_25 ?_
      refine lv_aload_n hx hb dX1_forkBehind_26 rfl (lv_at hl 0 rfl) ?_
      refine va_get (D := G.1) (ci := 1) (v := .ref az) (C := RX1) (T := TX1) (N := 4) hx hb hts hinX1 hown hK.1 hP 0 rfl rfl 1 (by decide) (hts (.fieldLink RX1 15 "ForkStore$Keys" "sizes" "[I") (by decide +kernel)) (fun _ h9 => h9) rfl dX1_forkBehind_27 ?_
      refine lv_iload_n hx hb dX1_forkBehind_30 rfl (lv_at hl 1 rfl) ?_
      refine kz_iald hx hb hK.1 hP 2 0 rfl rfl (k := kk) (by omega) (by decide) dX1_forkBehind_31 ?_
      refine kz_asi (y := nI (zs kk)) rfl ?_
      refine lv_aload_n hx hb dX1_forkBehind_32 rfl (lv_at hl 0 rfl) ?_
      refine va_get (D := G.1) (ci := 1) (v := .ref aw) (C := RX1) (T := TX1) (N := 4) hx hb hts hinX1 hown hK.1 hP 0 rfl rfl 0 (by decide) (hts (.fieldLink RX1 9 "ForkStore$Keys" "words" "[J") (by decide +kernel)) (fun _ h9 => h9) rfl dX1_forkBehind_33 ?_
      refine lv_iload_n hx hb dX1_forkBehind_36 rfl (lv_at hl 1 rfl) ?_
      refine lv_iconst (v := 1) hx hb dX1_forkBehind_37 (by decide) ?_
      refine lv_iadd hx hb dX1_forkBehind_38 ?_
      refine kz_asi (y := nI (kk + 1)) (nI_1 kk) ?_
      refine kz_lald hx hb hK.1 hP 1 1 rfl rfl (k := (kk + 1)) (by omega) (by decide) dX1_forkBehind_39 ?_
      refine lv_aload_n hx hb dX1_forkBehind_40 rfl (lv_at hl 0 rfl) ?_
      refine va_get (D := G.1) (ci := 1) (v := .ref az) (C := RX1) (T := TX1) (N := 4) hx hb hts hinX1 hown hK.1 hP 0 rfl rfl 1 (by decide) (hts (.fieldLink RX1 15 "ForkStore$Keys" "sizes" "[I") (by decide +kernel)) (fun _ h9 => h9) rfl dX1_forkBehind_41 ?_
      refine lv_iload_n hx hb dX1_forkBehind_44 rfl (lv_at hl 1 rfl) ?_
      refine lv_iconst (v := 1) hx hb dX1_forkBehind_45 (by decide) ?_
      refine lv_iadd hx hb dX1_forkBehind_46 ?_
      refine kz_asi (y := nI (kk + 1)) (nI_1 kk) ?_
      refine kz_iald hx hb hK.1 hP 2 0 rfl rfl (k := (kk + 1)) (by omega) (by decide) dX1_forkBehind_47 ?_
      refine kz_asi (y := nI (zs (kk + 1))) rfl ?_
      refine kz_ci (v := nI (kf_cm (fw kk) (zs kk) (fw (kk + 1)) (zs (kk + 1)))) (va_runSN (As := [.long (fw kk), .int (nI (zs kk)), .long (fw (kk + 1)), .int (nI (zs (kk + 1)))]) (rest := []) ⟨hx, hb, hml, hown, hts⟩ (c_X3_bytesInCommon l (fw kk) (zs kk) (fw (kk + 1)) (zs (kk + 1)) (by omega) (by omega)) ⟨(va_cnB 4 hts gX1_forkBehind_X3_bytesInCommon_n36 rfl rfl rfl hK.2 (hts (.initialized RX3) (by decide +kernel)) (by decide +kernel) ⟨Nat.le_of_ble_eq_true rfl, Nat.le_of_ble_eq_true rfl⟩), hts (.static yX3_bytesInCommon) (by decide +kernel), trivial⟩ kz_ps0 rfl rfl hl.1 rfl (lv_room (Nat.le_of_ble_eq_true rfl)) dX1_forkBehind_48 ⟨Nat.zero_le _, Nat.zero_le _⟩).run ?_
      exact W.iret (v := nI (kf_cm (fw kk) (zs kk) (fw (kk + 1)) (zs (kk + 1)))) hx hb hr (fun t ht hW => ⟨_, rfl, rfl, ht⟩) (fun _ h => nomatch h) dX1_forkBehind_51
    · exact absurd ((kf_plN (by omega) (by omega)).mpr (by omega)) (kf_if0 c_2)

set_option maxHeartbeats 4000000 in
set_option maxRecDepth 100000 in
theorem c_X1_countForksOnTheWayTo (l : Launch) (G : kz_G) (hk aw az an nn : Nat) (fw : Nat → Int64) (zs : Nat → Nat) (fv : Nat → Int32) (ww : Int64) (zz : Nat) (hn : nn ≤ 120) (hz : ∀ j, zs j ≤ 8) (hzz : zz ≤ 8) : Met l yX1_countForksOnTheWayTo wsX1_countForksOnTheWayTo { frames := 4, cells := 0, slots := 0, locals := 90 } (kz_Pp G [.ref hk, .long ww, .int (nI zz)] [(hk, .inr (1, [.ref aw, .ref az, .ref an, .int (nI nn)])), (aw, .inl (gJ G, 120, .inr (.inl fw))), (az, .inl (gI G, 120, .inl (kz_z zs))), (an, .inl (gI G, 120, .inl fv))]) (vp_Si (fun r => r = nI (kf_pop (kf_mk fw zs ww zz (nn - 1))))) 0 0 (fun _ => False) := by
  refine Met.ofW (cc := cX1_countForksOnTheWayTo) (maxL := 7) (ret := (some .int)) (by decide) rfl ?_
  intro p e s m args below meth c s₁ B hml hv
  obtain ⟨rfl, hP, hK⟩ := hv
  have hx := B.exec
  have hb := B.bytes
  have hr := B.returns
  have hts := atoms_spec (ws := wsX1_countForksOnTheWayTo) B.pre
  have hown : s.vm.findClass RX1 = some m.cls := findClass_of_methodNamed B.named
  have hlocks := B.notSynchronized
  have hinX1 : ∀ w ∈ wsX10, w ∈ wsX1_countForksOnTheWayTo := by decide +kernel
  have hP : va_P G.1 vwCl [(hk, .inr (1, [.ref aw, .ref az, .ref an, .int (nI nn)])), (aw, .inl (gJ G, 120, .inr (.inl fw))), (az, .inl (gI G, 120, .inl (kz_z zs))), (an, .inl (gI G, 120, .inl fv))] s.heap := hP
  have hl := lv_entry ([.ref hk, .long ww, .int (nI zz)]) (n := 7) (Nat.le_of_ble_eq_true rfl)
  rw [lg_entry_eq]
  generalize (lg_sl ([.ref hk, .long ww, .int (nI zz)]) ++ List.replicate (7 - (lg_sl ([.ref hk, .long ww, .int (nI zz)])).length) Slot.unset).toArray = ls at hl ⊢
  have hl : lv_has ls 7 [(0, .ref hk), (1, .long ww), (3, .int (nI zz))] := hl
  refine lv_iconst (v := 0) hx hb dX1_countForksOnTheWayTo_0 (by decide) ?_
  refine lv_istore (lv' := [(4, .int 0), (0, .ref hk), (1, .long ww), (3, .int (nI zz))]) hx hb dX1_countForksOnTheWayTo_1 hl (by decide) rfl (fun ls hl => ?_)
  refine lv_iconst (v := 0) hx hb dX1_countForksOnTheWayTo_3 (by decide) ?_
  refine lv_istore (lv' := [(5, .int 0), (4, .int 0), (0, .ref hk), (1, .long ww), (3, .int (nI zz))]) hx hb dX1_countForksOnTheWayTo_4 hl (by decide) rfl (fun ls hl => ?_)
  refine kz_loop (nL := 7) (hd := 6) (e9 := nn - 1) (i0 := 0) (LV := fun ii => [(4, .int (nI (kf_mk fw zs ww zz ii))), (5, .int (nI ii)), (0, .ref hk), (1, .long ww), (3, .int (nI zz))]) (fun ii ls hii hl ih => ?_) (Nat.zero_le _) (lv_sub hl [1, 0, 2, 3, 4] rfl)
  have hl : lv_has ls 7 [(4, .int (nI (kf_mk fw zs ww zz ii))), (5, .int (nI ii)), (0, .ref hk), (1, .long ww), (3, .int (nI zz))] := hl
  refine lv_iload hx hb dX1_countForksOnTheWayTo_6 (lv_at hl 1 rfl) ?_
  refine lv_iconst (v := 1) hx hb dX1_countForksOnTheWayTo_8 (by decide) ?_
  refine lv_iadd hx hb dX1_countForksOnTheWayTo_9 ?_
  refine kz_asi (y := nI (ii + 1)) (nI_1 ii) ?_
  refine lv_aload_n hx hb dX1_countForksOnTheWayTo_10 rfl (lv_at hl 2 rfl) ?_
  refine va_get (D := G.1) (ci := 1) (v := .int (nI nn)) (C := RX1) (T := TX1) (N := 4) hx hb hts hinX1 hown hK.1 hP 0 rfl rfl 3 (by decide) (hts (.fieldLink RX1 22 "ForkStore$Keys" "count" "I") (by decide +kernel)) (fun _ h9 => h9) rfl dX1_countForksOnTheWayTo_11 ?_
  refine lv_icmp_ge (tgt := 69) hx hb dX1_countForksOnTheWayTo_14 (by decide) (fun c_1 => ?_) (fun c_1 => ?_)
  · have kc_1 : nn ≤ ii + 1 := (nI_leI (by omega) (by omega)).mp c_1
    refine lv_iload hx hb dX1_countForksOnTheWayTo_69 (lv_at hl 0 rfl) ?_
    refine kz_ci (v := nI (kf_pop (kf_mk fw zs ww zz ii))) (va_runS (As := [.int (nI (kf_mk fw zs ww zz ii))]) (rest := []) ⟨hx, hb, hml, hown, hts⟩ (c_J6_bitCount_0f7a4 l (kf_mk fw zs ww zz ii) (kf_mk_lt _ _ _ _ _)) (va_cwS 1 hts gX1_countForksOnTheWayTo_J6_bitCount_0f7a4 rfl rfl rfl (by decide +kernel) ⟨Nat.le_of_ble_eq_true rfl, Nat.le_of_ble_eq_true rfl⟩) kz_ps0 rfl rfl hl.1 rfl (lv_room (Nat.le_of_ble_eq_true rfl)) dX1_countForksOnTheWayTo_71 ⟨Nat.zero_le _, Nat.zero_le _⟩).run ?_
    exact W.iret (v := nI (kf_pop (kf_mk fw zs ww zz ii))) hx hb hr (fun t ht hW => ⟨_, rfl, (by rw [show ii = nn - 1 from by omega]), ht⟩) (fun _ h => nomatch h) dX1_countForksOnTheWayTo_74
  · have kc_1 : ii + 1 < nn := Nat.lt_of_not_le (fun h => c_1 (nI_le h (by omega)))
    have hzi := hz ii
    have hf8 := kf_fk_le fw zs ii
    have hc8 := kf_cm_le (fw ii) (zs ii) ww zz
    refine lv_aload_n hx hb dX1_countForksOnTheWayTo_17 rfl (lv_at hl 2 rfl) ?_
    refine lv_iload hx hb dX1_countForksOnTheWayTo_18 (lv_at hl 1 rfl) ?_
    have hPc := hP.sub (ws' := [(hk, .inr (1, [.ref aw, .ref az, .ref an, .int (nI nn)])), (aw, .inl (gJ G, 120, .inr (.inl fw))), (az, .inl (gI G, 120, .inl (kz_z zs))), (an, .inl (gI G, 120, .inl fv))]) [0, 1, 2, 3] rfl
    refine kz_ci (v := nI (kf_fk fw zs ii)) (va_runV (As := [.int (nI ii)]) (rest := []) ⟨hx, hb, hml, hown, hts⟩ (c_X1_forkBehind l G hk aw az an nn fw zs fv ii (by omega) hz (by omega)) (cwV 1 hts gX1_countForksOnTheWayTo_X1_forkBehind rfl rfl rfl (by decide +kernel) ⟨Nat.le_of_ble_eq_true rfl, Nat.le_of_ble_eq_true rfl⟩) (kz_pv hK hPc (va_recv hK.1 hPc (ci := 1) (q0 := 0) rfl rfl)) rfl rfl hl.1 rfl (lv_room (Nat.le_of_ble_eq_true rfl)) dX1_countForksOnTheWayTo_20 ⟨Nat.zero_le _, Nat.zero_le _⟩).run ?_
    refine lv_istore (lv' := [(6, .int (nI (kf_fk fw zs ii))), (4, .int (nI (kf_mk fw zs ww zz ii))), (5, .int (nI ii)), (0, .ref hk), (1, .long ww), (3, .int (nI zz))]) hx hb dX1_countForksOnTheWayTo_23 hl (by decide) rfl (fun ls hl => ?_)
    refine lv_iload hx hb dX1_countForksOnTheWayTo_25 (lv_at hl 0 rfl) ?_
    refine lv_if_lt (tgt := 63) hx hb dX1_countForksOnTheWayTo_27 (by decide) (fun c_2 => ?_) (fun c_2 => ?_)
    · exact absurd c_2 (nI_pos (by omega))
    · refine lv_iload hx hb dX1_countForksOnTheWayTo_30 (lv_at hl 0 rfl) ?_
      refine lv_aload_n hx hb dX1_countForksOnTheWayTo_32 rfl (lv_at hl 3 rfl) ?_
      refine va_get (D := G.1) (ci := 1) (v := .ref aw) (C := RX1) (T := TX1) (N := 4) hx hb hts hinX1 hown hK.1 hP 0 rfl rfl 0 (by decide) (hts (.fieldLink RX1 9 "ForkStore$Keys" "words" "[J") (by decide +kernel)) (fun _ h9 => h9) rfl dX1_countForksOnTheWayTo_33 ?_
      refine lv_iload hx hb dX1_countForksOnTheWayTo_36 (lv_at hl 2 rfl) ?_
      refine kz_lald hx hb hK.1 hP 1 1 rfl rfl (k := ii) (by omega) (by decide) dX1_countForksOnTheWayTo_38 ?_
      refine lv_aload_n hx hb dX1_countForksOnTheWayTo_39 rfl (lv_at hl 3 rfl) ?_
      refine va_get (D := G.1) (ci := 1) (v := .ref az) (C := RX1) (T := TX1) (N := 4) hx hb hts hinX1 hown hK.1 hP 0 rfl rfl 1 (by decide) (hts (.fieldLink RX1 15 "ForkStore$Keys" "sizes" "[I") (by decide +kernel)) (fun _ h9 => h9) rfl dX1_countForksOnTheWayTo_40 ?_
      refine lv_iload hx hb dX1_countForksOnTheWayTo_43 (lv_at hl 2 rfl) ?_
      refine kz_iald hx hb hK.1 hP 2 0 rfl rfl (k := ii) (by omega) (by decide) dX1_countForksOnTheWayTo_45 ?_
      refine kz_asi (y := nI (zs ii)) rfl ?_
      refine lv_lload_n hx hb dX1_countForksOnTheWayTo_46 rfl (lv_at hl 4 rfl) ?_
      refine lv_iload_n hx hb dX1_countForksOnTheWayTo_47 rfl (lv_at hl 5 rfl) ?_
      refine kz_ci (v := nI (kf_cm (fw ii) (zs ii) ww zz)) (va_runSN (As := [.long (fw ii), .int (nI (zs ii)), .long ww, .int (nI zz)]) (rest := [.int (nI (kf_fk fw zs ii))]) ⟨hx, hb, hml, hown, hts⟩ (c_X3_bytesInCommon l (fw ii) (zs ii) ww zz (by omega) (by omega)) ⟨(va_cnB 4 hts gX1_countForksOnTheWayTo_X3_bytesInCommon_n36 rfl rfl rfl hK.2 (hts (.initialized RX3) (by decide +kernel)) (by decide +kernel) ⟨Nat.le_of_ble_eq_true rfl, Nat.le_of_ble_eq_true rfl⟩), hts (.static yX3_bytesInCommon) (by decide +kernel), trivial⟩ kz_ps0 rfl rfl hl.1 rfl (lv_room (Nat.le_of_ble_eq_true rfl)) dX1_countForksOnTheWayTo_48 ⟨Nat.zero_le _, Nat.zero_le _⟩).run ?_
      refine lv_icmp_gt (tgt := 63) hx hb dX1_countForksOnTheWayTo_51 (by decide) (fun c_3 => ?_) (fun c_3 => ?_)
      · have hno : ¬ kf_fk fw zs ii ≤ kf_cm (fw ii) (zs ii) ww zz := fun h => absurd ((nI_ltI (by omega) (by omega)).mp c_3) (by omega)
        refine lv_iinc (v := nI (ii + 1)) (lv' := [(5, .int (nI (ii + 1))), (6, .int (nI (kf_fk fw zs ii))), (4, .int (nI (kf_mk fw zs ww zz ii))), (0, .ref hk), (1, .long ww), (3, .int (nI zz))]) hx hb dX1_countForksOnTheWayTo_63 hl (k := 2) rfl (nI_1 ii) (by decide) rfl (fun ls hl => ?_)
        refine lv_goto (tgt := 6) hx hb dX1_countForksOnTheWayTo_66 (by decide) ?_
        have e9 : kf_mk fw zs ww zz (ii + 1) = kf_mk fw zs ww zz ii := by rw [kf_mk, if_neg hno]
        exact ih ls (by omega) (by simp only [e9]; exact lv_sub hl [2, 0, 3, 4, 5] rfl)
      · have hyes : kf_fk fw zs ii ≤ kf_cm (fw ii) (zs ii) ww zz := (nI_leI (by omega) (by omega)).mp (Int32.not_lt.mp c_3)
        refine lv_iload hx hb dX1_countForksOnTheWayTo_54 (lv_at hl 1 rfl) ?_
        refine lv_iconst (v := 1) hx hb dX1_countForksOnTheWayTo_56 (by decide) ?_
        refine lv_iload hx hb dX1_countForksOnTheWayTo_57 (lv_at hl 0 rfl) ?_
        refine lv_ishl hx hb dX1_countForksOnTheWayTo_59 ?_
        refine lv_ior hx hb dX1_countForksOnTheWayTo_60 ?_
        refine kz_asi (y := nI (kf_mk fw zs ww zz (ii + 1))) (by rw [kf_sh4 ⟨kf_fk fw zs ii, by omega⟩, kf_or, kf_mk, if_pos hyes]) ?_
        refine lv_istore (lv' := [(4, .int (nI (kf_mk fw zs ww zz (ii + 1)))), (6, .int (nI (kf_fk fw zs ii))), (5, .int (nI ii)), (0, .ref hk), (1, .long ww), (3, .int (nI zz))]) hx hb dX1_countForksOnTheWayTo_61 hl (by decide) rfl (fun ls hl => ?_)
        refine lv_iinc (v := nI (ii + 1)) (lv' := [(5, .int (nI (ii + 1))), (4, .int (nI (kf_mk fw zs ww zz (ii + 1)))), (6, .int (nI (kf_fk fw zs ii))), (0, .ref hk), (1, .long ww), (3, .int (nI zz))]) hx hb dX1_countForksOnTheWayTo_63 hl (k := 2) rfl (nI_1 ii) (by decide) rfl (fun ls hl => ?_)
        refine lv_goto (tgt := 6) hx hb dX1_countForksOnTheWayTo_66 (by decide) ?_
        exact ih ls (by omega) (lv_sub hl [1, 0, 3, 4, 5] rfl)
end
section
/-- rows moved up by one, above i, up to n -/
def kf_up {α : Type} (f : Nat → α) (i n : Nat) : Nat → α := fun j => if i < j ∧ j ≤ n then f (j - 1) else f j
theorem kf_up_id {α : Type} (f : Nat → α) (n : Nat) : kf_up f n n = f := by
  funext j
  unfold kf_up
  rw [if_neg (by omega)]
theorem kf_up_L (f : Nat → Int64) {i n : Nat} (h0 : 0 < i) (hi : i ≤ n) : kf_up f (i - 1) n = vp_updL (kf_up f i n) i (kf_up f i n (i - 1)) := by
  funext j
  unfold vp_updL kf_up
  by_cases h : j = i
  · subst h
    rw [if_pos (by omega), if_pos rfl, if_neg (by omega)]
  · rw [if_neg h]
    by_cases h2 : i < j ∧ j ≤ n
    · rw [if_pos (by omega), if_pos h2]
    · rw [if_neg (by omega), if_neg h2]
theorem kf_up_I (f : Nat → Int32) {i n : Nat} (h0 : 0 < i) (hi : i ≤ n) : kf_up f (i - 1) n = upd (kf_up f i n) i (kf_up f i n (i - 1)) := by
  funext j
  unfold upd kf_up
  by_cases h : j = i
  · subst h
    rw [if_pos (by omega), if_pos rfl, if_neg (by omega)]
  · rw [if_neg h]
    by_cases h2 : i < j ∧ j ≤ n
    · rw [if_pos (by omega), if_pos h2]
    · rw [if_neg (by omega), if_neg h2]
/-- rows moved down by one, from k on, below i -/
def kf_dn {α : Type} (f : Nat → α) (k i : Nat) : Nat → α := fun j => if k ≤ j ∧ j < i then f (j + 1) else f j
theorem kf_dn_id {α : Type} (f : Nat → α) (k : Nat) : kf_dn f k k = f := by
  funext j
  unfold kf_dn
  rw [if_neg (by omega)]
theorem kf_dn_L (f : Nat → Int64) {k i : Nat} (h : k ≤ i) : kf_dn f k (i + 1) = vp_updL (kf_dn f k i) i (kf_dn f k i (i + 1)) := by
  funext j
  unfold vp_updL kf_dn
  by_cases hj : j = i
  · subst hj
    rw [if_pos (by omega), if_pos rfl, if_neg (by omega)]
  · rw [if_neg hj]
    by_cases h2 : k ≤ j ∧ j < i
    · rw [if_pos (by omega), if_pos h2]
    · rw [if_neg (by omega), if_neg h2]
theorem kf_dn_I (f : Nat → Int32) {k i : Nat} (h : k ≤ i) : kf_dn f k (i + 1) = upd (kf_dn f k i) i (kf_dn f k i (i + 1)) := by
  funext j
  unfold upd kf_dn
  by_cases hj : j = i
  · subst hj
    rw [if_pos (by omega), if_pos rfl, if_neg (by omega)]
  · rw [if_neg hj]
    by_cases h2 : k ≤ j ∧ j < i
    · rw [if_pos (by omega), if_pos h2]
    · rw [if_neg (by omega), if_neg h2]
/-- the first i places from g, the others from f -/
def kf_cp {α : Type} (g f : Nat → α) (i : Nat) : Nat → α := fun j => if j < i then g j else f j
theorem kf_cp_0 {α : Type} (g f : Nat → α) : kf_cp g f 0 = f := by
  funext j
  unfold kf_cp
  rw [if_neg (by omega)]
theorem kf_cp_L (g f : Nat → Int64) (i : Nat) : kf_cp g f (i + 1) = vp_updL (kf_cp g f i) i (g i) := by
  funext j
  unfold vp_updL kf_cp
  by_cases hj : j = i
  · subst hj
    rw [if_pos (by omega), if_pos rfl]
  · rw [if_neg hj]
    by_cases h2 : j < i
    · rw [if_pos (by omega), if_pos h2]
    · rw [if_neg (by omega), if_neg h2]
theorem kf_cp_I (g f : Nat → Int32) (i : Nat) : kf_cp g f (i + 1) = upd (kf_cp g f i) i (g i) := by
  funext j
  unfold upd kf_cp
  by_cases hj : j = i
  · subst hj
    rw [if_pos (by omega), if_pos rfl]
  · rw [if_neg hj]
    by_cases h2 : j < i
    · rw [if_pos (by omega), if_pos h2]
    · rw [if_neg (by omega), if_neg h2]

set_option maxHeartbeats 4000000 in
set_option maxRecDepth 100000 in
theorem c_X1_setNumber (l : Launch) (G : kz_G) (hk aw az an nn : Nat) (fw : Nat → Int64) (fz fv : Nat → Int32) (kk : Nat) (vv : Int32) (sz : Nat) (hn : nn ≤ 120) (hkk : kk < nn) : Met l yX1_setNumber wsX1_setNumber { frames := 1, cells := 0, slots := 0, locals := 21 } (kz_Pm G [.ref hk, .int (nI kk), .int vv] [(hk, .inr (1, [.ref aw, .ref az, .ref an, .int (nI nn)])), (aw, .inl (gJ G, 120, .inr (.inl fw))), (az, .inl (gI G, 120, .inl fz)), (an, .inl (gI G, 120, .inl fv))] sz) (kz_Qv G (fun w => w = [(hk, .inr (1, [.ref aw, .ref az, .ref an, .int (nI nn)])), (aw, .inl (gJ G, 120, .inr (.inl fw))), (az, .inl (gI G, 120, .inl fz)), (an, .inl (gI G, 120, .inl (upd fv kk vv)))]) (va_A [(hk, .inr (1, [.ref aw, .ref az, .ref an, .int (nI nn)])), (aw, .inl (gJ G, 120, .inr (.inl fw))), (az, .inl (gI G, 120, .inl fz)), (an, .inl (gI G, 120, .inl fv))] sz)) 0 0 (va_A [(hk, .inr (1, [.ref aw, .ref az, .ref an, .int (nI nn)])), (aw, .inl (gJ G, 120, .inr (.inl fw))), (az, .inl (gI G, 120, .inl fz)), (an, .inl (gI G, 120, .inl fv))] sz) := by
  refine Met.ofW (cc := cX1_setNumber) (maxL := 3) (ret := none) (by decide) rfl ?_
  intro p e s m args below meth c s₁ B hml hv
  obtain ⟨rfl, hsz, hP, hK, hD0⟩ := hv
  have hx := B.exec
  have hb := B.bytes
  have hr := B.returns
  have hts := atoms_spec (ws := wsX1_setNumber) B.pre
  have hown : s.vm.findClass RX1 = some m.cls := findClass_of_methodNamed B.named
  have hlocks := B.notSynchronized
  have hinX1 : ∀ w ∈ wsX10, w ∈ wsX1_setNumber := by decide +kernel
  subst hsz
  have hD := hD0.self (sz := s.heap.size)
  generalize hAe : va_A [(hk, .inr (1, [.ref aw, .ref az, .ref an, .int (nI nn)])), (aw, .inl (gJ G, 120, .inr (.inl fw))), (az, .inl (gI G, 120, .inl fz)), (an, .inl (gI G, 120, .inl fv))] s.heap.size = A at hD ⊢
  have hA : ∀ q : Nat, s.heap.size ≤ q → A q := fun q h => by rw [← hAe]; exact Or.inr h
  have hS : va_S A s.heap s.heap [] := va_S.rf
  have hP : va_P G.1 vwCl [(hk, .inr (1, [.ref aw, .ref az, .ref an, .int (nI nn)])), (aw, .inl (gJ G, 120, .inr (.inl fw))), (az, .inl (gI G, 120, .inl fz)), (an, .inl (gI G, 120, .inl fv))] s.heap := hP
  have hl := lv_entry ([.ref hk, .int (nI kk), .int vv]) (n := 3) (Nat.le_of_ble_eq_true rfl)
  rw [lg_entry_eq]
  generalize (lg_sl ([.ref hk, .int (nI kk), .int vv]) ++ List.replicate (3 - (lg_sl ([.ref hk, .int (nI kk), .int vv])).length) Slot.unset).toArray = ls at hl ⊢
  have hl : lv_has ls 3 [(0, .ref hk), (1, .int (nI kk)), (2, .int vv)] := hl
  refine lv_aload_n hx hb dX1_setNumber_0 rfl (lv_at hl 0 rfl) ?_
  refine lv_iload_n hx hb dX1_setNumber_1 rfl (lv_at hl 1 rfl) ?_
  have hPc := hP.sub (ws' := [(hk, .inr (1, [.ref aw, .ref az, .ref an, .int (nI nn)])), (aw, .inl (gJ G, 120, .inr (.inl fw))), (az, .inl (gI G, 120, .inl fz)), (an, .inl (gI G, 120, .inl fv))]) [0, 1, 2, 3] rfl
  refine kz_ci (v := if 0 ≤ nI kk ∧ nI kk < nI nn then 1 else 0) (va_runV (As := [.int (nI kk)]) (rest := []) ⟨hx, hb, hml, hown, hts⟩ (c_X1_isPlace l G hk aw az an nn fw fz fv (nI kk) ) (cwV 1 hts gX1_setNumber_X1_isPlace rfl rfl rfl (by decide +kernel) ⟨Nat.le_of_ble_eq_true rfl, Nat.le_of_ble_eq_true rfl⟩) (kz_pv hK hPc (va_recv hK.1 hPc (ci := 1) (q0 := 0) rfl rfl)) rfl rfl hl.1 rfl (lv_room (Nat.le_of_ble_eq_true rfl)) dX1_setNumber_2 ⟨Nat.zero_le _, Nat.zero_le _⟩).run ?_
  refine lv_if_eq (tgt := 15) hx hb dX1_setNumber_5 (by decide) (fun c_1 => ?_) (fun c_1 => ?_)
  · exact absurd ((kf_plN (by omega) (by omega)).mpr hkk) (kf_if0 c_1)
  · refine lv_aload_n hx hb dX1_setNumber_8 rfl (lv_at hl 0 rfl) ?_
    refine va_get (D := G.1) (ci := 1) (v := .ref an) (C := RX1) (T := TX1) (N := 4) hx hb hts hinX1 hown hK.1 hP 0 rfl rfl 2 (by decide) (hts (.fieldLink RX1 19 "ForkStore$Keys" "numbers" "[I") (by decide +kernel)) (fun _ h9 => h9) rfl dX1_setNumber_9 ?_
    refine lv_iload_n hx hb dX1_setNumber_12 rfl (lv_at hl 1 rfl) ?_
    refine lv_iload_n hx hb dX1_setNumber_13 rfl (lv_at hl 2 rfl) ?_
    refine kz_iast hx hb hK.1 hP hD hS 3 0 rfl rfl (k := kk) (by omega) (by decide) dX1_setNumber_14 (fun H locs hP hD hS => ?_)
    have hP : va_P G.1 vwCl [(hk, .inr (1, [.ref aw, .ref az, .ref an, .int (nI nn)])), (aw, .inl (gJ G, 120, .inr (.inl fw))), (az, .inl (gI G, 120, .inl fz)), (an, .inl (gI G, 120, .inl (upd fv kk vv)))] H := hP
    have hD : va_D A [(hk, .inr (1, [.ref aw, .ref az, .ref an, .int (nI nn)])), (aw, .inl (gJ G, 120, .inr (.inl fw))), (az, .inl (gI G, 120, .inl fz)), (an, .inl (gI G, 120, .inl (upd fv kk vv)))] := hD
    exact W.vret hx hb hr (fun t ht hW => ⟨⟨([(hk, .inr (1, [.ref aw, .ref az, .ref an, .int (nI nn)])), (aw, .inl (gJ G, 120, .inr (.inl fw))), (az, .inl (gI G, 120, .inl fz)), (an, .inl (gI G, 120, .inl (upd fv kk vv)))] : va_W), rfl, rfl, by rw [← ht] at hP; exact hP⟩, hS.F ht⟩) hS.2.2 dX1_setNumber_15

set_option maxHeartbeats 4000000 in
set_option maxRecDepth 100000 in
theorem c_X1_insert (l : Launch) (G : kz_G) (hk aw az an nn : Nat) (fw : Nat → Int64) (fz fv : Nat → Int32) (kk : Nat) (ww : Int64) (zv vv : Int32) (sz : Nat) (hn : nn < 120) (hkk : kk ≤ nn) : Met l yX1_insert wsX1_insert { frames := 1, cells := 0, slots := 0, locals := 20 } (kz_Pm G [.ref hk, .int (nI kk), .long ww, .int zv, .int vv] [(hk, .inr (1, [.ref aw, .ref az, .ref an, .int (nI nn)])), (aw, .inl (gJ G, 120, .inr (.inl fw))), (az, .inl (gI G, 120, .inl fz)), (an, .inl (gI G, 120, .inl fv))] sz) (kz_Qv G (fun w => w = [(hk, .inr (1, [.ref aw, .ref az, .ref an, .int (nI (nn + 1))])), (aw, .inl (gJ G, 120, .inr (.inl (vp_updL (kf_up fw kk nn) kk ww)))), (az, .inl (gI G, 120, .inl (upd (kf_up fz kk nn) kk zv))), (an, .inl (gI G, 120, .inl (upd (kf_up fv kk nn) kk vv)))]) (va_A [(hk, .inr (1, [.ref aw, .ref az, .ref an, .int (nI nn)])), (aw, .inl (gJ G, 120, .inr (.inl fw))), (az, .inl (gI G, 120, .inl fz)), (an, .inl (gI G, 120, .inl fv))] sz)) 0 0 (va_A [(hk, .inr (1, [.ref aw, .ref az, .ref an, .int (nI nn)])), (aw, .inl (gJ G, 120, .inr (.inl fw))), (az, .inl (gI G, 120, .inl fz)), (an, .inl (gI G, 120, .inl fv))] sz) := by
  refine Met.ofW (cc := cX1_insert) (maxL := 7) (ret := none) (by decide) rfl ?_
  intro p e s m args below meth c s₁ B hml hv
  obtain ⟨rfl, hsz, hP, hK, hD0⟩ := hv
  have hx := B.exec
  have hb := B.bytes
  have hr := B.returns
  have hts := atoms_spec (ws := wsX1_insert) B.pre
  have hown : s.vm.findClass RX1 = some m.cls := findClass_of_methodNamed B.named
  have hlocks := B.notSynchronized
  have hinX1 : ∀ w ∈ wsX10, w ∈ wsX1_insert := by decide +kernel
  subst hsz
  have hD := hD0.self (sz := s.heap.size)
  generalize hAe : va_A [(hk, .inr (1, [.ref aw, .ref az, .ref an, .int (nI nn)])), (aw, .inl (gJ G, 120, .inr (.inl fw))), (az, .inl (gI G, 120, .inl fz)), (an, .inl (gI G, 120, .inl fv))] s.heap.size = A at hD ⊢
  have hA : ∀ q : Nat, s.heap.size ≤ q → A q := fun q h => by rw [← hAe]; exact Or.inr h
  have hS : va_S A s.heap s.heap [] := va_S.rf
  have hP : va_P G.1 vwCl [(hk, .inr (1, [.ref aw, .ref az, .ref an, .int (nI nn)])), (aw, .inl (gJ G, 120, .inr (.inl fw))), (az, .inl (gI G, 120, .inl fz)), (an, .inl (gI G, 120, .inl fv))] s.heap := hP
  have hl := lv_entry ([.ref hk, .int (nI kk), .long ww, .int zv, .int vv]) (n := 7) (Nat.le_of_ble_eq_true rfl)
  rw [lg_entry_eq]
  generalize (lg_sl ([.ref hk, .int (nI kk), .long ww, .int zv, .int vv]) ++ List.replicate (7 - (lg_sl ([.ref hk, .int (nI kk), .long ww, .int zv, .int vv])).length) Slot.unset).toArray = ls at hl ⊢
  have hl : lv_has ls 7 [(0, .ref hk), (1, .int (nI kk)), (2, .long ww), (4, .int zv), (5, .int vv)] := hl
  refine lv_aload_n hx hb dX1_insert_0 rfl (lv_at hl 0 rfl) ?_
  have hPc := hP.sub (ws' := [(hk, .inr (1, [.ref aw, .ref az, .ref an, .int (nI nn)])), (aw, .inl (gJ G, 120, .inr (.inl fw))), (az, .inl (gI G, 120, .inl fz)), (an, .inl (gI G, 120, .inl fv))]) [0, 1, 2, 3] rfl
  refine kz_ci (v := if 120 ≤ nn then 1 else 0) (va_runV (As := []) (rest := []) ⟨hx, hb, hml, hown, hts⟩ (c_X1_isFull l G hk aw az an nn fw fz fv  (by omega)) (cwV 0 hts gX1_insert_X1_isFull rfl rfl rfl (by decide +kernel) ⟨Nat.le_of_ble_eq_true rfl, Nat.le_of_ble_eq_true rfl⟩) (kz_pv hK hPc (va_recv hK.1 hPc (ci := 1) (q0 := 0) rfl rfl)) rfl rfl hl.1 rfl (lv_room (Nat.le_of_ble_eq_true rfl)) dX1_insert_1 ⟨Nat.zero_le _, Nat.zero_le _⟩).run ?_
  refine lv_if_ne (tgt := 19) hx hb dX1_insert_4 (by decide) (fun c_1 => ?_) (fun c_1 => ?_)
  · exact absurd (kf_if1 c_1) (by omega)
  · refine lv_iload_n hx hb dX1_insert_7 rfl (lv_at hl 1 rfl) ?_
    refine lv_if_lt (tgt := 19) hx hb dX1_insert_8 (by decide) (fun c_2 => ?_) (fun c_2 => ?_)
    · exact absurd c_2 (nI_pos (by omega))
    · refine lv_iload_n hx hb dX1_insert_11 rfl (lv_at hl 1 rfl) ?_
      refine lv_aload_n hx hb dX1_insert_12 rfl (lv_at hl 0 rfl) ?_
      refine va_get (D := G.1) (ci := 1) (v := .int (nI nn)) (C := RX1) (T := TX1) (N := 4) hx hb hts hinX1 hown hK.1 hP 0 rfl rfl 3 (by decide) (hts (.fieldLink RX1 22 "ForkStore$Keys" "count" "I") (by decide +kernel)) (fun _ h9 => h9) rfl dX1_insert_13 ?_
      refine lv_icmp_le (tgt := 20) hx hb dX1_insert_16 (by decide) (fun c_3 => ?_) (fun c_3 => ?_)
      · refine lv_aload_n hx hb dX1_insert_20 rfl (lv_at hl 0 rfl) ?_
        refine va_get (D := G.1) (ci := 1) (v := .int (nI nn)) (C := RX1) (T := TX1) (N := 4) hx hb hts hinX1 hown hK.1 hP 0 rfl rfl 3 (by decide) (hts (.fieldLink RX1 22 "ForkStore$Keys" "count" "I") (by decide +kernel)) (fun _ h9 => h9) rfl dX1_insert_21 ?_
        refine lv_istore (lv' := [(6, .int (nI nn)), (0, .ref hk), (1, .int (nI kk)), (2, .long ww), (4, .int zv), (5, .int vv)]) hx hb dX1_insert_24 hl (by decide) rfl (fun ls hl => ?_)
        refine kz_loopm (D := G.1) (cl := vwCl) (A := A) (H0 := s.heap) (nL := 7) (hd := 26) (e9 := nn - kk) (i0 := 0) (LV := fun ii => [(6, .int (nI (nn - ii))), (0, .ref hk), (1, .int (nI kk)), (2, .long ww), (4, .int zv), (5, .int vv)]) (WV := fun ii => [(hk, .inr (1, [.ref aw, .ref az, .ref an, .int (nI nn)])), (aw, .inl (gJ G, 120, .inr (.inl (kf_up fw (nn - ii) nn)))), (az, .inl (gI G, 120, .inl (kf_up fz (nn - ii) nn))), (an, .inl (gI G, 120, .inl (kf_up fv (nn - ii) nn)))]) (fun ii H locs ls hii hl hP hD hS ih => ?_) (Nat.zero_le _) (lv_sub hl [0, 1, 2, 3, 4, 5] rfl) (by simp only [Nat.sub_zero, kf_up_id]; exact hP) (by simp only [Nat.sub_zero, kf_up_id]; exact hD) hS
        have hl : lv_has ls 7 [(6, .int (nI (nn - ii))), (0, .ref hk), (1, .int (nI kk)), (2, .long ww), (4, .int zv), (5, .int vv)] := hl
        have hP : va_P G.1 vwCl [(hk, .inr (1, [.ref aw, .ref az, .ref an, .int (nI nn)])), (aw, .inl (gJ G, 120, .inr (.inl (kf_up fw (nn - ii) nn)))), (az, .inl (gI G, 120, .inl (kf_up fz (nn - ii) nn))), (an, .inl (gI G, 120, .inl (kf_up fv (nn - ii) nn)))] H := hP
        have hD : va_D A [(hk, .inr (1, [.ref aw, .ref az, .ref an, .int (nI nn)])), (aw, .inl (gJ G, 120, .inr (.inl (kf_up fw (nn - ii) nn)))), (az, .inl (gI G, 120, .inl (kf_up fz (nn - ii) nn))), (an, .inl (gI G, 120, .inl (kf_up fv (nn - ii) nn)))] := hD
        refine lv_iload hx hb dX1_insert_26 (lv_at hl 0 rfl) ?_
        refine lv_iload_n hx hb dX1_insert_28 rfl (lv_at hl 2 rfl) ?_
        refine lv_icmp_le (tgt := 86) hx hb dX1_insert_29 (by decide) (fun c_4 => ?_) (fun c_4 => ?_)
        · have kc_4 : nn - ii ≤ kk := (nI_leI (by omega) (by omega)).mp c_4
          rw [show nn - ii = kk from by omega] at hP hD
          have hP : va_P G.1 vwCl [(hk, .inr (1, [.ref aw, .ref az, .ref an, .int (nI nn)])), (aw, .inl (gJ G, 120, .inr (.inl (kf_up fw kk nn)))), (az, .inl (gI G, 120, .inl (kf_up fz kk nn))), (an, .inl (gI G, 120, .inl (kf_up fv kk nn)))] _ := hP
          have hD : va_D A [(hk, .inr (1, [.ref aw, .ref az, .ref an, .int (nI nn)])), (aw, .inl (gJ G, 120, .inr (.inl (kf_up fw kk nn)))), (az, .inl (gI G, 120, .inl (kf_up fz kk nn))), (an, .inl (gI G, 120, .inl (kf_up fv kk nn)))] := hD
          refine lv_aload_n hx hb dX1_insert_86 rfl (lv_at hl 1 rfl) ?_
          refine va_get (D := G.1) (ci := 1) (v := .ref aw) (C := RX1) (T := TX1) (N := 4) hx hb hts hinX1 hown hK.1 hP 0 rfl rfl 0 (by decide) (hts (.fieldLink RX1 9 "ForkStore$Keys" "words" "[J") (by decide +kernel)) (fun _ h9 => h9) rfl dX1_insert_87 ?_
          refine lv_iload_n hx hb dX1_insert_90 rfl (lv_at hl 2 rfl) ?_
          refine lv_lload_n hx hb dX1_insert_91 rfl (lv_at hl 3 rfl) ?_
          refine kz_last hx hb hK.1 hP hD hS 1 1 rfl rfl (k := kk) (by omega) (by decide) dX1_insert_92 (fun H locs hP hD hS => ?_)
          have hP : va_P G.1 vwCl [(hk, .inr (1, [.ref aw, .ref az, .ref an, .int (nI nn)])), (aw, .inl (gJ G, 120, .inr (.inl (vp_updL (kf_up fw kk nn) kk ww)))), (az, .inl (gI G, 120, .inl (kf_up fz kk nn))), (an, .inl (gI G, 120, .inl (kf_up fv kk nn)))] H := hP
          have hD : va_D A [(hk, .inr (1, [.ref aw, .ref az, .ref an, .int (nI nn)])), (aw, .inl (gJ G, 120, .inr (.inl (vp_updL (kf_up fw kk nn) kk ww)))), (az, .inl (gI G, 120, .inl (kf_up fz kk nn))), (an, .inl (gI G, 120, .inl (kf_up fv kk nn)))] := hD
          refine lv_aload_n hx hb dX1_insert_93 rfl (lv_at hl 1 rfl) ?_
          refine va_get (D := G.1) (ci := 1) (v := .ref az) (C := RX1) (T := TX1) (N := 4) hx hb hts hinX1 hown hK.1 hP 0 rfl rfl 1 (by decide) (hts (.fieldLink RX1 15 "ForkStore$Keys" "sizes" "[I") (by decide +kernel)) (fun _ h9 => h9) rfl dX1_insert_94 ?_
          refine lv_iload_n hx hb dX1_insert_97 rfl (lv_at hl 2 rfl) ?_
          refine lv_iload hx hb dX1_insert_98 (lv_at hl 4 rfl) ?_
          refine kz_iast hx hb hK.1 hP hD hS 2 0 rfl rfl (k := kk) (by omega) (by decide) dX1_insert_100 (fun H locs hP hD hS => ?_)
          have hP : va_P G.1 vwCl [(hk, .inr (1, [.ref aw, .ref az, .ref an, .int (nI nn)])), (aw, .inl (gJ G, 120, .inr (.inl (vp_updL (kf_up fw kk nn) kk ww)))), (az, .inl (gI G, 120, .inl (upd (kf_up fz kk nn) kk zv))), (an, .inl (gI G, 120, .inl (kf_up fv kk nn)))] H := hP
          have hD : va_D A [(hk, .inr (1, [.ref aw, .ref az, .ref an, .int (nI nn)])), (aw, .inl (gJ G, 120, .inr (.inl (vp_updL (kf_up fw kk nn) kk ww)))), (az, .inl (gI G, 120, .inl (upd (kf_up fz kk nn) kk zv))), (an, .inl (gI G, 120, .inl (kf_up fv kk nn)))] := hD
          refine lv_aload_n hx hb dX1_insert_101 rfl (lv_at hl 1 rfl) ?_
          refine va_get (D := G.1) (ci := 1) (v := .ref an) (C := RX1) (T := TX1) (N := 4) hx hb hts hinX1 hown hK.1 hP 0 rfl rfl 2 (by decide) (hts (.fieldLink RX1 19 "ForkStore$Keys" "numbers" "[I") (by decide +kernel)) (fun _ h9 => h9) rfl dX1_insert_102 ?_
          refine lv_iload_n hx hb dX1_insert_105 rfl (lv_at hl 2 rfl) ?_
          refine lv_iload hx hb dX1_insert_106 (lv_at hl 5 rfl) ?_
          refine kz_iast hx hb hK.1 hP hD hS 3 0 rfl rfl (k := kk) (by omega) (by decide) dX1_insert_108 (fun H locs hP hD hS => ?_)
          have hP : va_P G.1 vwCl [(hk, .inr (1, [.ref aw, .ref az, .ref an, .int (nI nn)])), (aw, .inl (gJ G, 120, .inr (.inl (vp_updL (kf_up fw kk nn) kk ww)))), (az, .inl (gI G, 120, .inl (upd (kf_up fz kk nn) kk zv))), (an, .inl (gI G, 120, .inl (upd (kf_up fv kk nn) kk vv)))] H := hP
          have hD : va_D A [(hk, .inr (1, [.ref aw, .ref az, .ref an, .int (nI nn)])), (aw, .inl (gJ G, 120, .inr (.inl (vp_updL (kf_up fw kk nn) kk ww)))), (az, .inl (gI G, 120, .inl (upd (kf_up fz kk nn) kk zv))), (an, .inl (gI G, 120, .inl (upd (kf_up fv kk nn) kk vv)))] := hD
          refine lv_aload_n hx hb dX1_insert_109 rfl (lv_at hl 1 rfl) ?_
          refine lv_dup hx hb dX1_insert_110 rfl ?_
          refine va_get (D := G.1) (ci := 1) (v := .int (nI nn)) (C := RX1) (T := TX1) (N := 4) hx hb hts hinX1 hown hK.1 hP 0 rfl rfl 3 (by decide) (hts (.fieldLink RX1 22 "ForkStore$Keys" "count" "I") (by decide +kernel)) (fun _ h9 => h9) rfl dX1_insert_111 ?_
          refine lv_iconst (v := 1) hx hb dX1_insert_114 (by decide) ?_
          refine lv_iadd hx hb dX1_insert_115 ?_
          refine kz_asi (y := nI (nn + 1)) (nI_1 nn) ?_
          refine va_put (D := G.1) (ci := 1) (v := .int (nI (nn + 1))) (ty := .int) (C := RX1) (T := TX1) (N := 4) hx hb hts hinX1 tyX1 tyX1_ok nmX1 hown hK.1 hP hD hS 0 rfl rfl 3 (by decide) (hts (.fieldLink RX1 22 "ForkStore$Keys" "count" "I") (by decide +kernel)) (fun _ h9 => h9) rfl (by decide +kernel) rfl rfl (Nat.le_of_ble_eq_true rfl) dX1_insert_116 (fun H locs hP hD hS => ?_)
          have hP : va_P G.1 vwCl [(hk, .inr (1, [.ref aw, .ref az, .ref an, .int (nI (nn + 1))])), (aw, .inl (gJ G, 120, .inr (.inl (vp_updL (kf_up fw kk nn) kk ww)))), (az, .inl (gI G, 120, .inl (upd (kf_up fz kk nn) kk zv))), (an, .inl (gI G, 120, .inl (upd (kf_up fv kk nn) kk vv)))] H := hP
          have hD : va_D A [(hk, .inr (1, [.ref aw, .ref az, .ref an, .int (nI (nn + 1))])), (aw, .inl (gJ G, 120, .inr (.inl (vp_updL (kf_up fw kk nn) kk ww)))), (az, .inl (gI G, 120, .inl (upd (kf_up fz kk nn) kk zv))), (an, .inl (gI G, 120, .inl (upd (kf_up fv kk nn) kk vv)))] := hD
          exact W.vret hx hb hr (fun t ht hW => ⟨⟨([(hk, .inr (1, [.ref aw, .ref az, .ref an, .int (nI (nn + 1))])), (aw, .inl (gJ G, 120, .inr (.inl (vp_updL (kf_up fw kk nn) kk ww)))), (az, .inl (gI G, 120, .inl (upd (kf_up fz kk nn) kk zv))), (an, .inl (gI G, 120, .inl (upd (kf_up fv kk nn) kk vv)))] : va_W), rfl, rfl, by rw [← ht] at hP; exact hP⟩, hS.F ht⟩) hS.2.2 dX1_insert_119
        · have kc_4 : kk < nn - ii := Nat.lt_of_not_le (fun h => c_4 (nI_le h (by omega)))
          refine lv_aload_n hx hb dX1_insert_32 rfl (lv_at hl 1 rfl) ?_
          refine va_get (D := G.1) (ci := 1) (v := .ref aw) (C := RX1) (T := TX1) (N := 4) hx hb hts hinX1 hown hK.1 hP 0 rfl rfl 0 (by decide) (hts (.fieldLink RX1 9 "ForkStore$Keys" "words" "[J") (by decide +kernel)) (fun _ h9 => h9) rfl dX1_insert_33 ?_
          refine lv_iload hx hb dX1_insert_36 (lv_at hl 0 rfl) ?_
          refine lv_aload_n hx hb dX1_insert_38 rfl (lv_at hl 1 rfl) ?_
          refine va_get (D := G.1) (ci := 1) (v := .ref aw) (C := RX1) (T := TX1) (N := 4) hx hb hts hinX1 hown hK.1 hP 0 rfl rfl 0 (by decide) (hts (.fieldLink RX1 9 "ForkStore$Keys" "words" "[J") (by decide +kernel)) (fun _ h9 => h9) rfl dX1_insert_39 ?_
          refine lv_iload hx hb dX1_insert_42 (lv_at hl 0 rfl) ?_
          refine lv_iconst (v := 1) hx hb dX1_insert_44 (by decide) ?_
          refine lv_isub hx hb dX1_insert_45 ?_
          refine kz_asi (y := nI (nn - ii - 1)) (pk_sub (a := nn - ii) (b := 1) (by omega)) ?_
          refine kz_lald hx hb hK.1 hP 1 1 rfl rfl (k := (nn - ii - 1)) (by omega) (by decide) dX1_insert_46 ?_
          refine kz_last hx hb hK.1 hP hD hS 1 1 rfl rfl (k := (nn - ii)) (by omega) (by decide) dX1_insert_47 (fun H locs hP hD hS => ?_)
          have hP : va_P G.1 vwCl [(hk, .inr (1, [.ref aw, .ref az, .ref an, .int (nI nn)])), (aw, .inl (gJ G, 120, .inr (.inl (vp_updL (kf_up fw (nn - ii) nn) (nn - ii) ((kf_up fw (nn - ii) nn) (nn - ii - 1)))))), (az, .inl (gI G, 120, .inl (kf_up fz (nn - ii) nn))), (an, .inl (gI G, 120, .inl (kf_up fv (nn - ii) nn)))] H := hP
          have hD : va_D A [(hk, .inr (1, [.ref aw, .ref az, .ref an, .int (nI nn)])), (aw, .inl (gJ G, 120, .inr (.inl (vp_updL (kf_up fw (nn - ii) nn) (nn - ii) ((kf_up fw (nn - ii) nn) (nn - ii - 1)))))), (az, .inl (gI G, 120, .inl (kf_up fz (nn - ii) nn))), (an, .inl (gI G, 120, .inl (kf_up fv (nn - ii) nn)))] := hD
          refine lv_aload_n hx hb dX1_insert_48 rfl (lv_at hl 1 rfl) ?_
          refine va_get (D := G.1) (ci := 1) (v := .ref az) (C := RX1) (T := TX1) (N := 4) hx hb hts hinX1 hown hK.1 hP 0 rfl rfl 1 (by decide) (hts (.fieldLink RX1 15 "ForkStore$Keys" "sizes" "[I") (by decide +kernel)) (fun _ h9 => h9) rfl dX1_insert_49 ?_
          refine lv_iload hx hb dX1_insert_52 (lv_at hl 0 rfl) ?_
          refine lv_aload_n hx hb dX1_insert_54 rfl (lv_at hl 1 rfl) ?_
          refine va_get (D := G.1) (ci := 1) (v := .ref az) (C := RX1) (T := TX1) (N := 4) hx hb hts hinX1 hown hK.1 hP 0 rfl rfl 1 (by decide) (hts (.fieldLink RX1 15 "ForkStore$Keys" "sizes" "[I") (by decide +kernel)) (fun _ h9 => h9) rfl dX1_insert_55 ?_
          refine lv_iload hx hb dX1_insert_58 (lv_at hl 0 rfl) ?_
          refine lv_iconst (v := 1) hx hb dX1_insert_60 (by decide) ?_
          refine lv_isub hx hb dX1_insert_61 ?_
          refine kz_asi (y := nI (nn - ii - 1)) (pk_sub (a := nn - ii) (b := 1) (by omega)) ?_
          refine kz_iald hx hb hK.1 hP 2 0 rfl rfl (k := (nn - ii - 1)) (by omega) (by decide) dX1_insert_62 ?_
          refine kz_iast hx hb hK.1 hP hD hS 2 0 rfl rfl (k := (nn - ii)) (by omega) (by decide) dX1_insert_63 (fun H locs hP hD hS => ?_)
          have hP : va_P G.1 vwCl [(hk, .inr (1, [.ref aw, .ref az, .ref an, .int (nI nn)])), (aw, .inl (gJ G, 120, .inr (.inl (vp_updL (kf_up fw (nn - ii) nn) (nn - ii) ((kf_up fw (nn - ii) nn) (nn - ii - 1)))))), (az, .inl (gI G, 120, .inl (upd (kf_up fz (nn - ii) nn) (nn - ii) ((kf_up fz (nn - ii) nn) (nn - ii - 1))))), (an, .inl (gI G, 120, .inl (kf_up fv (nn - ii) nn)))] H := hP
          have hD : va_D A [(hk, .inr (1, [.ref aw, .ref az, .ref an, .int (nI nn)])), (aw, .inl (gJ G, 120, .inr (.inl (vp_updL (kf_up fw (nn - ii) nn) (nn - ii) ((kf_up fw (nn - ii) nn) (nn - ii - 1)))))), (az, .inl (gI G, 120, .inl (upd (kf_up fz (nn - ii) nn) (nn - ii) ((kf_up fz (nn - ii) nn) (nn - ii - 1))))), (an, .inl (gI G, 120, .inl (kf_up fv (nn - ii) nn)))] := hD
          refine lv_aload_n hx hb dX1_insert_64 rfl (lv_at hl 1 rfl) ?_
          refine va_get (D := G.1) (ci := 1) (v := .ref an) (C := RX1) (T := TX1) (N := 4) hx hb hts hinX1 hown hK.1 hP 0 rfl rfl 2 (by decide) (hts (.fieldLink RX1 19 "ForkStore$Keys" "numbers" "[I") (by decide +kernel)) (fun _ h9 => h9) rfl dX1_insert_65 ?_
          refine lv_iload hx hb dX1_insert_68 (lv_at hl 0 rfl) ?_
          refine lv_aload_n hx hb dX1_insert_70 rfl (lv_at hl 1 rfl) ?_
          refine va_get (D := G.1) (ci := 1) (v := .ref an) (C := RX1) (T := TX1) (N := 4) hx hb hts hinX1 hown hK.1 hP 0 rfl rfl 2 (by decide) (hts (.fieldLink RX1 19 "ForkStore$Keys" "numbers" "[I") (by decide +kernel)) (fun _ h9 => h9) rfl dX1_insert_71 ?_
          refine lv_iload hx hb dX1_insert_74 (lv_at hl 0 rfl) ?_
          refine lv_iconst (v := 1) hx hb dX1_insert_76 (by decide) ?_
          refine lv_isub hx hb dX1_insert_77 ?_
          refine kz_asi (y := nI (nn - ii - 1)) (pk_sub (a := nn - ii) (b := 1) (by omega)) ?_
          refine kz_iald hx hb hK.1 hP 3 0 rfl rfl (k := (nn - ii - 1)) (by omega) (by decide) dX1_insert_78 ?_
          refine kz_iast hx hb hK.1 hP hD hS 3 0 rfl rfl (k := (nn - ii)) (by omega) (by decide) dX1_insert_79 (fun H locs hP hD hS => ?_)
          have hP : va_P G.1 vwCl [(hk, .inr (1, [.ref aw, .ref az, .ref an, .int (nI nn)])), (aw, .inl (gJ G, 120, .inr (.inl (vp_updL (kf_up fw (nn - ii) nn) (nn - ii) ((kf_up fw (nn - ii) nn) (nn - ii - 1)))))), (az, .inl (gI G, 120, .inl (upd (kf_up fz (nn - ii) nn) (nn - ii) ((kf_up fz (nn - ii) nn) (nn - ii - 1))))), (an, .inl (gI G, 120, .inl (upd (kf_up fv (nn - ii) nn) (nn - ii) ((kf_up fv (nn - ii) nn) (nn - ii - 1)))))] H := hP
          have hD : va_D A [(hk, .inr (1, [.ref aw, .ref az, .ref an, .int (nI nn)])), (aw, .inl (gJ G, 120, .inr (.inl (vp_updL (kf_up fw (nn - ii) nn) (nn - ii) ((kf_up fw (nn - ii) nn) (nn - ii - 1)))))), (az, .inl (gI G, 120, .inl (upd (kf_up fz (nn - ii) nn) (nn - ii) ((kf_up fz (nn - ii) nn) (nn - ii - 1))))), (an, .inl (gI G, 120, .inl (upd (kf_up fv (nn - ii) nn) (nn - ii) ((kf_up fv (nn - ii) nn) (nn - ii - 1)))))] := hD
          refine lv_iinc (v := nI (nn - (ii + 1))) (lv' := [(6, .int (nI (nn - (ii + 1)))), (0, .ref hk), (1, .int (nI kk)), (2, .long ww), (4, .int zv), (5, .int vv)]) hx hb dX1_insert_80 hl (k := 0) rfl (by rw [show nn - ii = (nn - (ii + 1)) + 1 from by omega]; exact pk_m1 _) (by decide) rfl (fun ls hl => ?_)
          refine lv_goto (tgt := 26) hx hb dX1_insert_83 (by decide) ?_
          have e1 := kf_up_L fw (i := nn - ii) (n := nn) (by omega) (by omega)
          have e2 := kf_up_I fz (i := nn - ii) (n := nn) (by omega) (by omega)
          have e3 := kf_up_I fv (i := nn - ii) (n := nn) (by omega) (by omega)
          exact ih H locs ls (by omega) (lv_sub hl [0, 1, 2, 3, 4, 5] rfl) (by show va_P G.1 vwCl [(hk, .inr (1, [.ref aw, .ref az, .ref an, .int (nI nn)])), (aw, .inl (gJ G, 120, .inr (.inl (kf_up fw (nn - ii - 1) nn)))), (az, .inl (gI G, 120, .inl (kf_up fz (nn - ii - 1) nn))), (an, .inl (gI G, 120, .inl (kf_up fv (nn - ii - 1) nn)))] H; rw [e1, e2, e3]; exact hP) (by show va_D A [(hk, .inr (1, [.ref aw, .ref az, .ref an, .int (nI nn)])), (aw, .inl (gJ G, 120, .inr (.inl (kf_up fw (nn - ii - 1) nn)))), (az, .inl (gI G, 120, .inl (kf_up fz (nn - ii - 1) nn))), (an, .inl (gI G, 120, .inl (kf_up fv (nn - ii - 1) nn)))]; rw [e1, e2, e3]; exact hD) hS
      · exact absurd (nI_le hkk (by omega)) c_3

set_option maxHeartbeats 4000000 in
set_option maxRecDepth 100000 in
theorem c_X1_takeOut (l : Launch) (G : kz_G) (hk aw az an nn : Nat) (fw : Nat → Int64) (fz fv : Nat → Int32) (kk : Nat) (sz : Nat) (hn : nn ≤ 120) (hkk : kk < nn) : Met l yX1_takeOut wsX1_takeOut { frames := 1, cells := 0, slots := 0, locals := 21 } (kz_Pm G [.ref hk, .int (nI kk)] [(hk, .inr (1, [.ref aw, .ref az, .ref an, .int (nI nn)])), (aw, .inl (gJ G, 120, .inr (.inl fw))), (az, .inl (gI G, 120, .inl fz)), (an, .inl (gI G, 120, .inl fv))] sz) (kz_Qv G (fun w => w = [(hk, .inr (1, [.ref aw, .ref az, .ref an, .int (nI (nn - 1))])), (aw, .inl (gJ G, 120, .inr (.inl (kf_dn fw kk (nn - 1))))), (az, .inl (gI G, 120, .inl (kf_dn fz kk (nn - 1)))), (an, .inl (gI G, 120, .inl (kf_dn fv kk (nn - 1))))]) (va_A [(hk, .inr (1, [.ref aw, .ref az, .ref an, .int (nI nn)])), (aw, .inl (gJ G, 120, .inr (.inl fw))), (az, .inl (gI G, 120, .inl fz)), (an, .inl (gI G, 120, .inl fv))] sz)) 0 0 (va_A [(hk, .inr (1, [.ref aw, .ref az, .ref an, .int (nI nn)])), (aw, .inl (gJ G, 120, .inr (.inl fw))), (az, .inl (gI G, 120, .inl fz)), (an, .inl (gI G, 120, .inl fv))] sz) := by
  refine Met.ofW (cc := cX1_takeOut) (maxL := 3) (ret := none) (by decide) rfl ?_
  intro p e s m args below meth c s₁ B hml hv
  obtain ⟨rfl, hsz, hP, hK, hD0⟩ := hv
  have hx := B.exec
  have hb := B.bytes
  have hr := B.returns
  have hts := atoms_spec (ws := wsX1_takeOut) B.pre
  have hown : s.vm.findClass RX1 = some m.cls := findClass_of_methodNamed B.named
  have hlocks := B.notSynchronized
  have hinX1 : ∀ w ∈ wsX10, w ∈ wsX1_takeOut := by decide +kernel
  subst hsz
  have hD := hD0.self (sz := s.heap.size)
  generalize hAe : va_A [(hk, .inr (1, [.ref aw, .ref az, .ref an, .int (nI nn)])), (aw, .inl (gJ G, 120, .inr (.inl fw))), (az, .inl (gI G, 120, .inl fz)), (an, .inl (gI G, 120, .inl fv))] s.heap.size = A at hD ⊢
  have hA : ∀ q : Nat, s.heap.size ≤ q → A q := fun q h => by rw [← hAe]; exact Or.inr h
  have hS : va_S A s.heap s.heap [] := va_S.rf
  have hP : va_P G.1 vwCl [(hk, .inr (1, [.ref aw, .ref az, .ref an, .int (nI nn)])), (aw, .inl (gJ G, 120, .inr (.inl fw))), (az, .inl (gI G, 120, .inl fz)), (an, .inl (gI G, 120, .inl fv))] s.heap := hP
  have hl := lv_entry ([.ref hk, .int (nI kk)]) (n := 3) (Nat.le_of_ble_eq_true rfl)
  rw [lg_entry_eq]
  generalize (lg_sl ([.ref hk, .int (nI kk)]) ++ List.replicate (3 - (lg_sl ([.ref hk, .int (nI kk)])).length) Slot.unset).toArray = ls at hl ⊢
  have hl : lv_has ls 3 [(0, .ref hk), (1, .int (nI kk))] := hl
  refine lv_aload_n hx hb dX1_takeOut_0 rfl (lv_at hl 0 rfl) ?_
  refine lv_iload_n hx hb dX1_takeOut_1 rfl (lv_at hl 1 rfl) ?_
  have hPc := hP.sub (ws' := [(hk, .inr (1, [.ref aw, .ref az, .ref an, .int (nI nn)])), (aw, .inl (gJ G, 120, .inr (.inl fw))), (az, .inl (gI G, 120, .inl fz)), (an, .inl (gI G, 120, .inl fv))]) [0, 1, 2, 3] rfl
  refine kz_ci (v := if 0 ≤ nI kk ∧ nI kk < nI nn then 1 else 0) (va_runV (As := [.int (nI kk)]) (rest := []) ⟨hx, hb, hml, hown, hts⟩ (c_X1_isPlace l G hk aw az an nn fw fz fv (nI kk) ) (cwV 1 hts gX1_takeOut_X1_isPlace rfl rfl rfl (by decide +kernel) ⟨Nat.le_of_ble_eq_true rfl, Nat.le_of_ble_eq_true rfl⟩) (kz_pv hK hPc (va_recv hK.1 hPc (ci := 1) (q0 := 0) rfl rfl)) rfl rfl hl.1 rfl (lv_room (Nat.le_of_ble_eq_true rfl)) dX1_takeOut_2 ⟨Nat.zero_le _, Nat.zero_le _⟩).run ?_
  refine lv_if_ne (tgt := 9) hx hb dX1_takeOut_5 (by decide) (fun c_1 => ?_) (fun c_1 => ?_)
  · refine lv_iload_n hx hb dX1_takeOut_9 rfl (lv_at hl 1 rfl) ?_
    refine lv_istore_n (lv' := [(2, .int (nI kk)), (0, .ref hk), (1, .int (nI kk))]) hx hb dX1_takeOut_10 rfl hl (by decide) rfl (fun ls hl => ?_)
    refine kz_loopm (D := G.1) (cl := vwCl) (A := A) (H0 := s.heap) (nL := 3) (hd := 11) (e9 := nn - 1 - kk) (i0 := 0) (LV := fun ii => [(2, .int (nI (kk + ii))), (0, .ref hk), (1, .int (nI kk))]) (WV := fun ii => [(hk, .inr (1, [.ref aw, .ref az, .ref an, .int (nI nn)])), (aw, .inl (gJ G, 120, .inr (.inl (kf_dn fw kk (kk + ii))))), (az, .inl (gI G, 120, .inl (kf_dn fz kk (kk + ii)))), (an, .inl (gI G, 120, .inl (kf_dn fv kk (kk + ii))))]) (fun ii H locs ls hii hl hP hD hS ih => ?_) (Nat.zero_le _) (lv_sub hl [0, 1, 2] rfl) (by simp only [Nat.add_zero, kf_dn_id]; exact hP) (by simp only [Nat.add_zero, kf_dn_id]; exact hD) hS
    have hl : lv_has ls 3 [(2, .int (nI (kk + ii))), (0, .ref hk), (1, .int (nI kk))] := hl
    have hP : va_P G.1 vwCl [(hk, .inr (1, [.ref aw, .ref az, .ref an, .int (nI nn)])), (aw, .inl (gJ G, 120, .inr (.inl (kf_dn fw kk (kk + ii))))), (az, .inl (gI G, 120, .inl (kf_dn fz kk (kk + ii)))), (an, .inl (gI G, 120, .inl (kf_dn fv kk (kk + ii))))] H := hP
    have hD : va_D A [(hk, .inr (1, [.ref aw, .ref az, .ref an, .int (nI nn)])), (aw, .inl (gJ G, 120, .inr (.inl (kf_dn fw kk (kk + ii))))), (az, .inl (gI G, 120, .inl (kf_dn fz kk (kk + ii)))), (an, .inl (gI G, 120, .inl (kf_dn fv kk (kk + ii))))] := hD
    refine lv_iload_n hx hb dX1_takeOut_11 rfl (lv_at hl 0 rfl) ?_
    refine lv_iconst (v := 1) hx hb dX1_takeOut_12 (by decide) ?_
    refine lv_iadd hx hb dX1_takeOut_13 ?_
    refine kz_asi (y := nI (kk + ii + 1)) (nI_1 (kk + ii)) ?_
    refine lv_aload_n hx hb dX1_takeOut_14 rfl (lv_at hl 1 rfl) ?_
    refine va_get (D := G.1) (ci := 1) (v := .int (nI nn)) (C := RX1) (T := TX1) (N := 4) hx hb hts hinX1 hown hK.1 hP 0 rfl rfl 3 (by decide) (hts (.fieldLink RX1 22 "ForkStore$Keys" "count" "I") (by decide +kernel)) (fun _ h9 => h9) rfl dX1_takeOut_15 ?_
    refine lv_icmp_ge (tgt := 69) hx hb dX1_takeOut_18 (by decide) (fun c_2 => ?_) (fun c_2 => ?_)
    · have kc_2 : nn ≤ kk + ii + 1 := (nI_leI (by omega) (by omega)).mp c_2
      rw [show kk + ii = nn - 1 from by omega] at hP hD
      have hP : va_P G.1 vwCl [(hk, .inr (1, [.ref aw, .ref az, .ref an, .int (nI nn)])), (aw, .inl (gJ G, 120, .inr (.inl (kf_dn fw kk (nn - 1))))), (az, .inl (gI G, 120, .inl (kf_dn fz kk (nn - 1)))), (an, .inl (gI G, 120, .inl (kf_dn fv kk (nn - 1))))] _ := hP
      have hD : va_D A [(hk, .inr (1, [.ref aw, .ref az, .ref an, .int (nI nn)])), (aw, .inl (gJ G, 120, .inr (.inl (kf_dn fw kk (nn - 1))))), (az, .inl (gI G, 120, .inl (kf_dn fz kk (nn - 1)))), (an, .inl (gI G, 120, .inl (kf_dn fv kk (nn - 1))))] := hD
      refine lv_aload_n hx hb dX1_takeOut_69 rfl (lv_at hl 1 rfl) ?_
      refine lv_dup hx hb dX1_takeOut_70 rfl ?_
      refine va_get (D := G.1) (ci := 1) (v := .int (nI nn)) (C := RX1) (T := TX1) (N := 4) hx hb hts hinX1 hown hK.1 hP 0 rfl rfl 3 (by decide) (hts (.fieldLink RX1 22 "ForkStore$Keys" "count" "I") (by decide +kernel)) (fun _ h9 => h9) rfl dX1_takeOut_71 ?_
      refine lv_iconst (v := 1) hx hb dX1_takeOut_74 (by decide) ?_
      refine lv_isub hx hb dX1_takeOut_75 ?_
      refine kz_asi (y := nI (nn - 1)) (pk_sub (a := nn) (b := 1) (by omega)) ?_
      refine va_put (D := G.1) (ci := 1) (v := .int (nI (nn - 1))) (ty := .int) (C := RX1) (T := TX1) (N := 4) hx hb hts hinX1 tyX1 tyX1_ok nmX1 hown hK.1 hP hD hS 0 rfl rfl 3 (by decide) (hts (.fieldLink RX1 22 "ForkStore$Keys" "count" "I") (by decide +kernel)) (fun _ h9 => h9) rfl (by decide +kernel) rfl rfl (Nat.le_of_ble_eq_true rfl) dX1_takeOut_76 (fun H locs hP hD hS => ?_)
      have hP : va_P G.1 vwCl [(hk, .inr (1, [.ref aw, .ref az, .ref an, .int (nI (nn - 1))])), (aw, .inl (gJ G, 120, .inr (.inl (kf_dn fw kk (nn - 1))))), (az, .inl (gI G, 120, .inl (kf_dn fz kk (nn - 1)))), (an, .inl (gI G, 120, .inl (kf_dn fv kk (nn - 1))))] H := hP
      have hD : va_D A [(hk, .inr (1, [.ref aw, .ref az, .ref an, .int (nI (nn - 1))])), (aw, .inl (gJ G, 120, .inr (.inl (kf_dn fw kk (nn - 1))))), (az, .inl (gI G, 120, .inl (kf_dn fz kk (nn - 1)))), (an, .inl (gI G, 120, .inl (kf_dn fv kk (nn - 1))))] := hD
      exact W.vret hx hb hr (fun t ht hW => ⟨⟨([(hk, .inr (1, [.ref aw, .ref az, .ref an, .int (nI (nn - 1))])), (aw, .inl (gJ G, 120, .inr (.inl (kf_dn fw kk (nn - 1))))), (az, .inl (gI G, 120, .inl (kf_dn fz kk (nn - 1)))), (an, .inl (gI G, 120, .inl (kf_dn fv kk (nn - 1))))] : va_W), rfl, rfl, by rw [← ht] at hP; exact hP⟩, hS.F ht⟩) hS.2.2 dX1_takeOut_79
    · have kc_2 : kk + ii + 1 < nn := Nat.lt_of_not_le (fun h => c_2 (nI_le h (by omega)))
      refine lv_aload_n hx hb dX1_takeOut_21 rfl (lv_at hl 1 rfl) ?_
      refine va_get (D := G.1) (ci := 1) (v := .ref aw) (C := RX1) (T := TX1) (N := 4) hx hb hts hinX1 hown hK.1 hP 0 rfl rfl 0 (by decide) (hts (.fieldLink RX1 9 "ForkStore$Keys" "words" "[J") (by decide +kernel)) (fun _ h9 => h9) rfl dX1_takeOut_22 ?_
      refine lv_iload_n hx hb dX1_takeOut_25 rfl (lv_at hl 0 rfl) ?_
      refine lv_aload_n hx hb dX1_takeOut_26 rfl (lv_at hl 1 rfl) ?_
      refine va_get (D := G.1) (ci := 1) (v := .ref aw) (C := RX1) (T := TX1) (N := 4) hx hb hts hinX1 hown hK.1 hP 0 rfl rfl 0 (by decide) (hts (.fieldLink RX1 9 "ForkStore$Keys" "words" "[J") (by decide +kernel)) (fun _ h9 => h9) rfl dX1_takeOut_27 ?_
      refine lv_iload_n hx hb dX1_takeOut_30 rfl (lv_at hl 0 rfl) ?_
      refine lv_iconst (v := 1) hx hb dX1_takeOut_31 (by decide) ?_
      refine lv_iadd hx hb dX1_takeOut_32 ?_
      refine kz_asi (y := nI (kk + ii + 1)) (nI_1 (kk + ii)) ?_
      refine kz_lald hx hb hK.1 hP 1 1 rfl rfl (k := (kk + ii + 1)) (by omega) (by decide) dX1_takeOut_33 ?_
      refine kz_last hx hb hK.1 hP hD hS 1 1 rfl rfl (k := (kk + ii)) (by omega) (by decide) dX1_takeOut_34 (fun H locs hP hD hS => ?_)
      have hP : va_P G.1 vwCl [(hk, .inr (1, [.ref aw, .ref az, .ref an, .int (nI nn)])), (aw, .inl (gJ G, 120, .inr (.inl (vp_updL (kf_dn fw kk (kk + ii)) (kk + ii) ((kf_dn fw kk (kk + ii)) (kk + ii + 1)))))), (az, .inl (gI G, 120, .inl (kf_dn fz kk (kk + ii)))), (an, .inl (gI G, 120, .inl (kf_dn fv kk (kk + ii))))] H := hP
      have hD : va_D A [(hk, .inr (1, [.ref aw, .ref az, .ref an, .int (nI nn)])), (aw, .inl (gJ G, 120, .inr (.inl (vp_updL (kf_dn fw kk (kk + ii)) (kk + ii) ((kf_dn fw kk (kk + ii)) (kk + ii + 1)))))), (az, .inl (gI G, 120, .inl (kf_dn fz kk (kk + ii)))), (an, .inl (gI G, 120, .inl (kf_dn fv kk (kk + ii))))] := hD
      refine lv_aload_n hx hb dX1_takeOut_35 rfl (lv_at hl 1 rfl) ?_
      refine va_get (D := G.1) (ci := 1) (v := .ref az) (C := RX1) (T := TX1) (N := 4) hx hb hts hinX1 hown hK.1 hP 0 rfl rfl 1 (by decide) (hts (.fieldLink RX1 15 "ForkStore$Keys" "sizes" "[I") (by decide +kernel)) (fun _ h9 => h9) rfl dX1_takeOut_36 ?_
      refine lv_iload_n hx hb dX1_takeOut_39 rfl (lv_at hl 0 rfl) ?_
      refine lv_aload_n hx hb dX1_takeOut_40 rfl (lv_at hl 1 rfl) ?_
      refine va_get (D := G.1) (ci := 1) (v := .ref az) (C := RX1) (T := TX1) (N := 4) hx hb hts hinX1 hown hK.1 hP 0 rfl rfl 1 (by decide) (hts (.fieldLink RX1 15 "ForkStore$Keys" "sizes" "[I") (by decide +kernel)) (fun _ h9 => h9) rfl dX1_takeOut_41 ?_
      refine lv_iload_n hx hb dX1_takeOut_44 rfl (lv_at hl 0 rfl) ?_
      refine lv_iconst (v := 1) hx hb dX1_takeOut_45 (by decide) ?_
      refine lv_iadd hx hb dX1_takeOut_46 ?_
      refine kz_asi (y := nI (kk + ii + 1)) (nI_1 (kk + ii)) ?_
      refine kz_iald hx hb hK.1 hP 2 0 rfl rfl (k := (kk + ii + 1)) (by omega) (by decide) dX1_takeOut_47 ?_
      refine kz_iast hx hb hK.1 hP hD hS 2 0 rfl rfl (k := (kk + ii)) (by omega) (by decide) dX1_takeOut_48 (fun H locs hP hD hS => ?_)
      have hP : va_P G.1 vwCl [(hk, .inr (1, [.ref aw, .ref az, .ref an, .int (nI nn)])), (aw, .inl (gJ G, 120, .inr (.inl (vp_updL (kf_dn fw kk (kk + ii)) (kk + ii) ((kf_dn fw kk (kk + ii)) (kk + ii + 1)))))), (az, .inl (gI G, 120, .inl (upd (kf_dn fz kk (kk + ii)) (kk + ii) ((kf_dn fz kk (kk + ii)) (kk + ii + 1))))), (an, .inl (gI G, 120, .inl (kf_dn fv kk (kk + ii))))] H := hP
      have hD : va_D A [(hk, .inr (1, [.ref aw, .ref az, .ref an, .int (nI nn)])), (aw, .inl (gJ G, 120, .inr (.inl (vp_updL (kf_dn fw kk (kk + ii)) (kk + ii) ((kf_dn fw kk (kk + ii)) (kk + ii + 1)))))), (az, .inl (gI G, 120, .inl (upd (kf_dn fz kk (kk + ii)) (kk + ii) ((kf_dn fz kk (kk + ii)) (kk + ii + 1))))), (an, .inl (gI G, 120, .inl (kf_dn fv kk (kk + ii))))] := hD
      refine lv_aload_n hx hb dX1_takeOut_49 rfl (lv_at hl 1 rfl) ?_
      refine va_get (D := G.1) (ci := 1) (v := .ref an) (C := RX1) (T := TX1) (N := 4) hx hb hts hinX1 hown hK.1 hP 0 rfl rfl 2 (by decide) (hts (.fieldLink RX1 19 "ForkStore$Keys" "numbers" "[I") (by decide +kernel)) (fun _ h9 => h9) rfl dX1_takeOut_50 ?_
      refine lv_iload_n hx hb dX1_takeOut_53 rfl (lv_at hl 0 rfl) ?_
      refine lv_aload_n hx hb dX1_takeOut_54 rfl (lv_at hl 1 rfl) ?_
      refine va_get (D := G.1) (ci := 1) (v := .ref an) (C := RX1) (T := TX1) (N := 4) hx hb hts hinX1 hown hK.1 hP 0 rfl rfl 2 (by decide) (hts (.fieldLink RX1 19 "ForkStore$Keys" "numbers" "[I") (by decide +kernel)) (fun _ h9 => h9) rfl dX1_takeOut_55 ?_
      refine lv_iload_n hx hb dX1_takeOut_58 rfl (lv_at hl 0 rfl) ?_
      refine lv_iconst (v := 1) hx hb dX1_takeOut_59 (by decide) ?_
      refine lv_iadd hx hb dX1_takeOut_60 ?_
      refine kz_asi (y := nI (kk + ii + 1)) (nI_1 (kk + ii)) ?_
      refine kz_iald hx hb hK.1 hP 3 0 rfl rfl (k := (kk + ii + 1)) (by omega) (by decide) dX1_takeOut_61 ?_
      refine kz_iast hx hb hK.1 hP hD hS 3 0 rfl rfl (k := (kk + ii)) (by omega) (by decide) dX1_takeOut_62 (fun H locs hP hD hS => ?_)
      have hP : va_P G.1 vwCl [(hk, .inr (1, [.ref aw, .ref az, .ref an, .int (nI nn)])), (aw, .inl (gJ G, 120, .inr (.inl (vp_updL (kf_dn fw kk (kk + ii)) (kk + ii) ((kf_dn fw kk (kk + ii)) (kk + ii + 1)))))), (az, .inl (gI G, 120, .inl (upd (kf_dn fz kk (kk + ii)) (kk + ii) ((kf_dn fz kk (kk + ii)) (kk + ii + 1))))), (an, .inl (gI G, 120, .inl (upd (kf_dn fv kk (kk + ii)) (kk + ii) ((kf_dn fv kk (kk + ii)) (kk + ii + 1)))))] H := hP
      have hD : va_D A [(hk, .inr (1, [.ref aw, .ref az, .ref an, .int (nI nn)])), (aw, .inl (gJ G, 120, .inr (.inl (vp_updL (kf_dn fw kk (kk + ii)) (kk + ii) ((kf_dn fw kk (kk + ii)) (kk + ii + 1)))))), (az, .inl (gI G, 120, .inl (upd (kf_dn fz kk (kk + ii)) (kk + ii) ((kf_dn fz kk (kk + ii)) (kk + ii + 1))))), (an, .inl (gI G, 120, .inl (upd (kf_dn fv kk (kk + ii)) (kk + ii) ((kf_dn fv kk (kk + ii)) (kk + ii + 1)))))] := hD
      refine lv_iinc (v := nI (kk + (ii + 1))) (lv' := [(2, .int (nI (kk + (ii + 1)))), (0, .ref hk), (1, .int (nI kk))]) hx hb dX1_takeOut_63 hl (k := 0) rfl (nI_1 (kk + ii)) (by decide) rfl (fun ls hl => ?_)
      refine lv_goto (tgt := 11) hx hb dX1_takeOut_66 (by decide) ?_
      have e1 := kf_dn_L fw (k := kk) (i := kk + ii) (by omega)
      have e2 := kf_dn_I fz (k := kk) (i := kk + ii) (by omega)
      have e3 := kf_dn_I fv (k := kk) (i := kk + ii) (by omega)
      exact ih H locs ls (by omega) (lv_sub hl [0, 1, 2] rfl) (by show va_P G.1 vwCl [(hk, .inr (1, [.ref aw, .ref az, .ref an, .int (nI nn)])), (aw, .inl (gJ G, 120, .inr (.inl (kf_dn fw kk (kk + ii + 1))))), (az, .inl (gI G, 120, .inl (kf_dn fz kk (kk + ii + 1)))), (an, .inl (gI G, 120, .inl (kf_dn fv kk (kk + ii + 1))))] H; rw [e1, e2, e3]; exact hP) (by show va_D A [(hk, .inr (1, [.ref aw, .ref az, .ref an, .int (nI nn)])), (aw, .inl (gJ G, 120, .inr (.inl (kf_dn fw kk (kk + ii + 1))))), (az, .inl (gI G, 120, .inl (kf_dn fz kk (kk + ii + 1)))), (an, .inl (gI G, 120, .inl (kf_dn fv kk (kk + ii + 1))))]; rw [e1, e2, e3]; exact hD) hS
  · exact absurd ((kf_plN (by omega) (by omega)).mpr hkk) (kf_if0 c_1)

set_option maxHeartbeats 4000000 in
set_option maxRecDepth 100000 in
theorem c_X1_copyFrom (l : Launch) (G : kz_G) (hk aw az an nn : Nat) (fw : Nat → Int64) (fz fv : Nat → Int32) (ohk oaw oaz oan onn : Nat) (ofw : Nat → Int64) (ofz ofv : Nat → Int32) (sz : Nat) (hn : onn ≤ 120) : Met l yX1_copyFrom wsX1_copyFrom { frames := 0, cells := 0, slots := 0, locals := 0 } (kz_Pm G [.ref hk, .ref ohk] [(hk, .inr (1, [.ref aw, .ref az, .ref an, .int (nI nn)])), (aw, .inl (gJ G, 120, .inr (.inl fw))), (az, .inl (gI G, 120, .inl fz)), (an, .inl (gI G, 120, .inl fv)), (ohk, .inr (1, [.ref oaw, .ref oaz, .ref oan, .int (nI onn)])), (oaw, .inl (gJ G, 120, .inr (.inl ofw))), (oaz, .inl (gI G, 120, .inl ofz)), (oan, .inl (gI G, 120, .inl ofv))] sz) (kz_Qv G (fun w => w = [(hk, .inr (1, [.ref aw, .ref az, .ref an, .int (nI onn)])), (aw, .inl (gJ G, 120, .inr (.inl (kf_cp ofw fw onn)))), (az, .inl (gI G, 120, .inl (kf_cp ofz fz onn))), (an, .inl (gI G, 120, .inl (kf_cp ofv fv onn))), (ohk, .inr (1, [.ref oaw, .ref oaz, .ref oan, .int (nI onn)])), (oaw, .inl (gJ G, 120, .inr (.inl ofw))), (oaz, .inl (gI G, 120, .inl ofz)), (oan, .inl (gI G, 120, .inl ofv))]) (va_A [(hk, .inr (1, [.ref aw, .ref az, .ref an, .int (nI nn)])), (aw, .inl (gJ G, 120, .inr (.inl fw))), (az, .inl (gI G, 120, .inl fz)), (an, .inl (gI G, 120, .inl fv)), (ohk, .inr (1, [.ref oaw, .ref oaz, .ref oan, .int (nI onn)])), (oaw, .inl (gJ G, 120, .inr (.inl ofw))), (oaz, .inl (gI G, 120, .inl ofz)), (oan, .inl (gI G, 120, .inl ofv))] sz)) 0 0 (va_A [(hk, .inr (1, [.ref aw, .ref az, .ref an, .int (nI nn)])), (aw, .inl (gJ G, 120, .inr (.inl fw))), (az, .inl (gI G, 120, .inl fz)), (an, .inl (gI G, 120, .inl fv)), (ohk, .inr (1, [.ref oaw, .ref oaz, .ref oan, .int (nI onn)])), (oaw, .inl (gJ G, 120, .inr (.inl ofw))), (oaz, .inl (gI G, 120, .inl ofz)), (oan, .inl (gI G, 120, .inl ofv))] sz) := by
  refine Met.ofW (cc := cX1_copyFrom) (maxL := 3) (ret := none) (by decide) rfl ?_
  intro p e s m args below meth c s₁ B hml hv
  obtain ⟨rfl, hsz, hP, hK, hD0⟩ := hv
  have hx := B.exec
  have hb := B.bytes
  have hr := B.returns
  have hts := atoms_spec (ws := wsX1_copyFrom) B.pre
  have hown : s.vm.findClass RX1 = some m.cls := findClass_of_methodNamed B.named
  have hlocks := B.notSynchronized
  have hinX1 : ∀ w ∈ wsX10, w ∈ wsX1_copyFrom := by decide +kernel
  subst hsz
  have hD := hD0.self (sz := s.heap.size)
  generalize hAe : va_A [(hk, .inr (1, [.ref aw, .ref az, .ref an, .int (nI nn)])), (aw, .inl (gJ G, 120, .inr (.inl fw))), (az, .inl (gI G, 120, .inl fz)), (an, .inl (gI G, 120, .inl fv)), (ohk, .inr (1, [.ref oaw, .ref oaz, .ref oan, .int (nI onn)])), (oaw, .inl (gJ G, 120, .inr (.inl ofw))), (oaz, .inl (gI G, 120, .inl ofz)), (oan, .inl (gI G, 120, .inl ofv))] s.heap.size = A at hD ⊢
  have hA : ∀ q : Nat, s.heap.size ≤ q → A q := fun q h => by rw [← hAe]; exact Or.inr h
  have hS : va_S A s.heap s.heap [] := va_S.rf
  have hP : va_P G.1 vwCl [(hk, .inr (1, [.ref aw, .ref az, .ref an, .int (nI nn)])), (aw, .inl (gJ G, 120, .inr (.inl fw))), (az, .inl (gI G, 120, .inl fz)), (an, .inl (gI G, 120, .inl fv)), (ohk, .inr (1, [.ref oaw, .ref oaz, .ref oan, .int (nI onn)])), (oaw, .inl (gJ G, 120, .inr (.inl ofw))), (oaz, .inl (gI G, 120, .inl ofz)), (oan, .inl (gI G, 120, .inl ofv))] s.heap := hP
  have hl := lv_entry ([.ref hk, .ref ohk]) (n := 3) (Nat.le_of_ble_eq_true rfl)
  rw [lg_entry_eq]
  generalize (lg_sl ([.ref hk, .ref ohk]) ++ List.replicate (3 - (lg_sl ([.ref hk, .ref ohk])).length) Slot.unset).toArray = ls at hl ⊢
  have hl : lv_has ls 3 [(0, .ref hk), (1, .ref ohk)] := hl
  refine lv_iconst (v := 0) hx hb dX1_copyFrom_0 (by decide) ?_
  refine lv_istore_n (lv' := [(2, .int 0), (0, .ref hk), (1, .ref ohk)]) hx hb dX1_copyFrom_1 rfl hl (by decide) rfl (fun ls hl => ?_)
  refine kz_loopm (D := G.1) (cl := vwCl) (A := A) (H0 := s.heap) (nL := 3) (hd := 2) (e9 := onn) (i0 := 0) (LV := fun ii => [(2, .int (nI ii)), (0, .ref hk), (1, .ref ohk)]) (WV := fun ii => [(hk, .inr (1, [.ref aw, .ref az, .ref an, .int (nI nn)])), (aw, .inl (gJ G, 120, .inr (.inl (kf_cp ofw fw ii)))), (az, .inl (gI G, 120, .inl (kf_cp ofz fz ii))), (an, .inl (gI G, 120, .inl (kf_cp ofv fv ii))), (ohk, .inr (1, [.ref oaw, .ref oaz, .ref oan, .int (nI onn)])), (oaw, .inl (gJ G, 120, .inr (.inl ofw))), (oaz, .inl (gI G, 120, .inl ofz)), (oan, .inl (gI G, 120, .inl ofv))]) (fun ii H locs ls hii hl hP hD hS ih => ?_) (Nat.zero_le _) (lv_sub hl [0, 1, 2] rfl) (by simp only [kf_cp_0]; exact hP) (by simp only [kf_cp_0]; exact hD) hS
  have hl : lv_has ls 3 [(2, .int (nI ii)), (0, .ref hk), (1, .ref ohk)] := hl
  have hP : va_P G.1 vwCl [(hk, .inr (1, [.ref aw, .ref az, .ref an, .int (nI nn)])), (aw, .inl (gJ G, 120, .inr (.inl (kf_cp ofw fw ii)))), (az, .inl (gI G, 120, .inl (kf_cp ofz fz ii))), (an, .inl (gI G, 120, .inl (kf_cp ofv fv ii))), (ohk, .inr (1, [.ref oaw, .ref oaz, .ref oan, .int (nI onn)])), (oaw, .inl (gJ G, 120, .inr (.inl ofw))), (oaz, .inl (gI G, 120, .inl ofz)), (oan, .inl (gI G, 120, .inl ofv))] H := hP
  have hD : va_D A [(hk, .inr (1, [.ref aw, .ref az, .ref an, .int (nI nn)])), (aw, .inl (gJ G, 120, .inr (.inl (kf_cp ofw fw ii)))), (az, .inl (gI G, 120, .inl (kf_cp ofz fz ii))), (an, .inl (gI G, 120, .inl (kf_cp ofv fv ii))), (ohk, .inr (1, [.ref oaw, .ref oaz, .ref oan, .int (nI onn)])), (oaw, .inl (gJ G, 120, .inr (.inl ofw))), (oaz, .inl (gI G, 120, .inl ofz)), (oan, .inl (gI G, 120, .inl ofv))] := hD
  refine lv_iload_n hx hb dX1_copyFrom_2 rfl (lv_at hl 0 rfl) ?_
  refine lv_aload_n hx hb dX1_copyFrom_3 rfl (lv_at hl 2 rfl) ?_
  refine va_get (D := G.1) (ci := 1) (v := .int (nI onn)) (C := RX1) (T := TX1) (N := 4) hx hb hts hinX1 hown hK.1 hP 4 rfl rfl 3 (by decide) (hts (.fieldLink RX1 22 "ForkStore$Keys" "count" "I") (by decide +kernel)) (fun _ h9 => h9) rfl dX1_copyFrom_4 ?_
  refine lv_icmp_ge (tgt := 52) hx hb dX1_copyFrom_7 (by decide) (fun c_1 => ?_) (fun c_1 => ?_)
  · have kc_1 : onn ≤ ii := (nI_leI (by omega) (by omega)).mp c_1
    rw [show ii = onn from by omega] at hP hD
    have hP : va_P G.1 vwCl [(hk, .inr (1, [.ref aw, .ref az, .ref an, .int (nI nn)])), (aw, .inl (gJ G, 120, .inr (.inl (kf_cp ofw fw onn)))), (az, .inl (gI G, 120, .inl (kf_cp ofz fz onn))), (an, .inl (gI G, 120, .inl (kf_cp ofv fv onn))), (ohk, .inr (1, [.ref oaw, .ref oaz, .ref oan, .int (nI onn)])), (oaw, .inl (gJ G, 120, .inr (.inl ofw))), (oaz, .inl (gI G, 120, .inl ofz)), (oan, .inl (gI G, 120, .inl ofv))] _ := hP
    have hD : va_D A [(hk, .inr (1, [.ref aw, .ref az, .ref an, .int (nI nn)])), (aw, .inl (gJ G, 120, .inr (.inl (kf_cp ofw fw onn)))), (az, .inl (gI G, 120, .inl (kf_cp ofz fz onn))), (an, .inl (gI G, 120, .inl (kf_cp ofv fv onn))), (ohk, .inr (1, [.ref oaw, .ref oaz, .ref oan, .int (nI onn)])), (oaw, .inl (gJ G, 120, .inr (.inl ofw))), (oaz, .inl (gI G, 120, .inl ofz)), (oan, .inl (gI G, 120, .inl ofv))] := hD
    refine lv_aload_n hx hb dX1_copyFrom_52 rfl (lv_at hl 1 rfl) ?_
    refine lv_aload_n hx hb dX1_copyFrom_53 rfl (lv_at hl 2 rfl) ?_
    refine va_get (D := G.1) (ci := 1) (v := .int (nI onn)) (C := RX1) (T := TX1) (N := 4) hx hb hts hinX1 hown hK.1 hP 4 rfl rfl 3 (by decide) (hts (.fieldLink RX1 22 "ForkStore$Keys" "count" "I") (by decide +kernel)) (fun _ h9 => h9) rfl dX1_copyFrom_54 ?_
    refine va_put (D := G.1) (ci := 1) (v := .int (nI onn)) (ty := .int) (C := RX1) (T := TX1) (N := 4) hx hb hts hinX1 tyX1 tyX1_ok nmX1 hown hK.1 hP hD hS 0 rfl rfl 3 (by decide) (hts (.fieldLink RX1 22 "ForkStore$Keys" "count" "I") (by decide +kernel)) (fun _ h9 => h9) rfl (by decide +kernel) rfl rfl (Nat.le_of_ble_eq_true rfl) dX1_copyFrom_57 (fun H locs hP hD hS => ?_)
    have hP : va_P G.1 vwCl [(hk, .inr (1, [.ref aw, .ref az, .ref an, .int (nI onn)])), (aw, .inl (gJ G, 120, .inr (.inl (kf_cp ofw fw onn)))), (az, .inl (gI G, 120, .inl (kf_cp ofz fz onn))), (an, .inl (gI G, 120, .inl (kf_cp ofv fv onn))), (ohk, .inr (1, [.ref oaw, .ref oaz, .ref oan, .int (nI onn)])), (oaw, .inl (gJ G, 120, .inr (.inl ofw))), (oaz, .inl (gI G, 120, .inl ofz)), (oan, .inl (gI G, 120, .inl ofv))] H := hP
    have hD : va_D A [(hk, .inr (1, [.ref aw, .ref az, .ref an, .int (nI onn)])), (aw, .inl (gJ G, 120, .inr (.inl (kf_cp ofw fw onn)))), (az, .inl (gI G, 120, .inl (kf_cp ofz fz onn))), (an, .inl (gI G, 120, .inl (kf_cp ofv fv onn))), (ohk, .inr (1, [.ref oaw, .ref oaz, .ref oan, .int (nI onn)])), (oaw, .inl (gJ G, 120, .inr (.inl ofw))), (oaz, .inl (gI G, 120, .inl ofz)), (oan, .inl (gI G, 120, .inl ofv))] := hD
    exact W.vret hx hb hr (fun t ht hW => ⟨⟨([(hk, .inr (1, [.ref aw, .ref az, .ref an, .int (nI onn)])), (aw, .inl (gJ G, 120, .inr (.inl (kf_cp ofw fw onn)))), (az, .inl (gI G, 120, .inl (kf_cp ofz fz onn))), (an, .inl (gI G, 120, .inl (kf_cp ofv fv onn))), (ohk, .inr (1, [.ref oaw, .ref oaz, .ref oan, .int (nI onn)])), (oaw, .inl (gJ G, 120, .inr (.inl ofw))), (oaz, .inl (gI G, 120, .inl ofz)), (oan, .inl (gI G, 120, .inl ofv))] : va_W), rfl, rfl, by rw [← ht] at hP; exact hP⟩, hS.F ht⟩) hS.2.2 dX1_copyFrom_60
  · have kc_1 : ii < onn := Nat.lt_of_not_le (fun h => c_1 (nI_le h (by omega)))
    refine lv_aload_n hx hb dX1_copyFrom_10 rfl (lv_at hl 1 rfl) ?_
    refine va_get (D := G.1) (ci := 1) (v := .ref aw) (C := RX1) (T := TX1) (N := 4) hx hb hts hinX1 hown hK.1 hP 0 rfl rfl 0 (by decide) (hts (.fieldLink RX1 9 "ForkStore$Keys" "words" "[J") (by decide +kernel)) (fun _ h9 => h9) rfl dX1_copyFrom_11 ?_
    refine lv_iload_n hx hb dX1_copyFrom_14 rfl (lv_at hl 0 rfl) ?_
    refine lv_aload_n hx hb dX1_copyFrom_15 rfl (lv_at hl 2 rfl) ?_
    refine va_get (D := G.1) (ci := 1) (v := .ref oaw) (C := RX1) (T := TX1) (N := 4) hx hb hts hinX1 hown hK.1 hP 4 rfl rfl 0 (by decide) (hts (.fieldLink RX1 9 "ForkStore$Keys" "words" "[J") (by decide +kernel)) (fun _ h9 => h9) rfl dX1_copyFrom_16 ?_
    refine lv_iload_n hx hb dX1_copyFrom_19 rfl (lv_at hl 0 rfl) ?_
    refine kz_lald hx hb hK.1 hP 5 1 rfl rfl (k := ii) (by omega) (by decide) dX1_copyFrom_20 ?_
    refine kz_last hx hb hK.1 hP hD hS 1 1 rfl rfl (k := ii) (by omega) (by decide) dX1_copyFrom_21 (fun H locs hP hD hS => ?_)
    have hP : va_P G.1 vwCl [(hk, .inr (1, [.ref aw, .ref az, .ref an, .int (nI nn)])), (aw, .inl (gJ G, 120, .inr (.inl (vp_updL (kf_cp ofw fw ii) ii (ofw ii))))), (az, .inl (gI G, 120, .inl (kf_cp ofz fz ii))), (an, .inl (gI G, 120, .inl (kf_cp ofv fv ii))), (ohk, .inr (1, [.ref oaw, .ref oaz, .ref oan, .int (nI onn)])), (oaw, .inl (gJ G, 120, .inr (.inl ofw))), (oaz, .inl (gI G, 120, .inl ofz)), (oan, .inl (gI G, 120, .inl ofv))] H := hP
    have hD : va_D A [(hk, .inr (1, [.ref aw, .ref az, .ref an, .int (nI nn)])), (aw, .inl (gJ G, 120, .inr (.inl (vp_updL (kf_cp ofw fw ii) ii (ofw ii))))), (az, .inl (gI G, 120, .inl (kf_cp ofz fz ii))), (an, .inl (gI G, 120, .inl (kf_cp ofv fv ii))), (ohk, .inr (1, [.ref oaw, .ref oaz, .ref oan, .int (nI onn)])), (oaw, .inl (gJ G, 120, .inr (.inl ofw))), (oaz, .inl (gI G, 120, .inl ofz)), (oan, .inl (gI G, 120, .inl ofv))] := hD
    refine lv_aload_n hx hb dX1_copyFrom_22 rfl (lv_at hl 1 rfl) ?_
    refine va_get (D := G.1) (ci := 1) (v := .ref az) (C := RX1) (T := TX1) (N := 4) hx hb hts hinX1 hown hK.1 hP 0 rfl rfl 1 (by decide) (hts (.fieldLink RX1 15 "ForkStore$Keys" "sizes" "[I") (by decide +kernel)) (fun _ h9 => h9) rfl dX1_copyFrom_23 ?_
    refine lv_iload_n hx hb dX1_copyFrom_26 rfl (lv_at hl 0 rfl) ?_
    refine lv_aload_n hx hb dX1_copyFrom_27 rfl (lv_at hl 2 rfl) ?_
    refine va_get (D := G.1) (ci := 1) (v := .ref oaz) (C := RX1) (T := TX1) (N := 4) hx hb hts hinX1 hown hK.1 hP 4 rfl rfl 1 (by decide) (hts (.fieldLink RX1 15 "ForkStore$Keys" "sizes" "[I") (by decide +kernel)) (fun _ h9 => h9) rfl dX1_copyFrom_28 ?_
    refine lv_iload_n hx hb dX1_copyFrom_31 rfl (lv_at hl 0 rfl) ?_
    refine kz_iald hx hb hK.1 hP 6 0 rfl rfl (k := ii) (by omega) (by decide) dX1_copyFrom_32 ?_
    refine kz_iast hx hb hK.1 hP hD hS 2 0 rfl rfl (k := ii) (by omega) (by decide) dX1_copyFrom_33 (fun H locs hP hD hS => ?_)
    have hP : va_P G.1 vwCl [(hk, .inr (1, [.ref aw, .ref az, .ref an, .int (nI nn)])), (aw, .inl (gJ G, 120, .inr (.inl (vp_updL (kf_cp ofw fw ii) ii (ofw ii))))), (az, .inl (gI G, 120, .inl (upd (kf_cp ofz fz ii) ii (ofz ii)))), (an, .inl (gI G, 120, .inl (kf_cp ofv fv ii))), (ohk, .inr (1, [.ref oaw, .ref oaz, .ref oan, .int (nI onn)])), (oaw, .inl (gJ G, 120, .inr (.inl ofw))), (oaz, .inl (gI G, 120, .inl ofz)), (oan, .inl (gI G, 120, .inl ofv))] H := hP
    have hD : va_D A [(hk, .inr (1, [.ref aw, .ref az, .ref an, .int (nI nn)])), (aw, .inl (gJ G, 120, .inr (.inl (vp_updL (kf_cp ofw fw ii) ii (ofw ii))))), (az, .inl (gI G, 120, .inl (upd (kf_cp ofz fz ii) ii (ofz ii)))), (an, .inl (gI G, 120, .inl (kf_cp ofv fv ii))), (ohk, .inr (1, [.ref oaw, .ref oaz, .ref oan, .int (nI onn)])), (oaw, .inl (gJ G, 120, .inr (.inl ofw))), (oaz, .inl (gI G, 120, .inl ofz)), (oan, .inl (gI G, 120, .inl ofv))] := hD
    refine lv_aload_n hx hb dX1_copyFrom_34 rfl (lv_at hl 1 rfl) ?_
    refine va_get (D := G.1) (ci := 1) (v := .ref an) (C := RX1) (T := TX1) (N := 4) hx hb hts hinX1 hown hK.1 hP 0 rfl rfl 2 (by decide) (hts (.fieldLink RX1 19 "ForkStore$Keys" "numbers" "[I") (by decide +kernel)) (fun _ h9 => h9) rfl dX1_copyFrom_35 ?_
    refine lv_iload_n hx hb dX1_copyFrom_38 rfl (lv_at hl 0 rfl) ?_
    refine lv_aload_n hx hb dX1_copyFrom_39 rfl (lv_at hl 2 rfl) ?_
    refine va_get (D := G.1) (ci := 1) (v := .ref oan) (C := RX1) (T := TX1) (N := 4) hx hb hts hinX1 hown hK.1 hP 4 rfl rfl 2 (by decide) (hts (.fieldLink RX1 19 "ForkStore$Keys" "numbers" "[I") (by decide +kernel)) (fun _ h9 => h9) rfl dX1_copyFrom_40 ?_
    refine lv_iload_n hx hb dX1_copyFrom_43 rfl (lv_at hl 0 rfl) ?_
    refine kz_iald hx hb hK.1 hP 7 0 rfl rfl (k := ii) (by omega) (by decide) dX1_copyFrom_44 ?_
    refine kz_iast hx hb hK.1 hP hD hS 3 0 rfl rfl (k := ii) (by omega) (by decide) dX1_copyFrom_45 (fun H locs hP hD hS => ?_)
    have hP : va_P G.1 vwCl [(hk, .inr (1, [.ref aw, .ref az, .ref an, .int (nI nn)])), (aw, .inl (gJ G, 120, .inr (.inl (vp_updL (kf_cp ofw fw ii) ii (ofw ii))))), (az, .inl (gI G, 120, .inl (upd (kf_cp ofz fz ii) ii (ofz ii)))), (an, .inl (gI G, 120, .inl (upd (kf_cp ofv fv ii) ii (ofv ii)))), (ohk, .inr (1, [.ref oaw, .ref oaz, .ref oan, .int (nI onn)])), (oaw, .inl (gJ G, 120, .inr (.inl ofw))), (oaz, .inl (gI G, 120, .inl ofz)), (oan, .inl (gI G, 120, .inl ofv))] H := hP
    have hD : va_D A [(hk, .inr (1, [.ref aw, .ref az, .ref an, .int (nI nn)])), (aw, .inl (gJ G, 120, .inr (.inl (vp_updL (kf_cp ofw fw ii) ii (ofw ii))))), (az, .inl (gI G, 120, .inl (upd (kf_cp ofz fz ii) ii (ofz ii)))), (an, .inl (gI G, 120, .inl (upd (kf_cp ofv fv ii) ii (ofv ii)))), (ohk, .inr (1, [.ref oaw, .ref oaz, .ref oan, .int (nI onn)])), (oaw, .inl (gJ G, 120, .inr (.inl ofw))), (oaz, .inl (gI G, 120, .inl ofz)), (oan, .inl (gI G, 120, .inl ofv))] := hD
    refine lv_iinc (v := nI (ii + 1)) (lv' := [(2, .int (nI (ii + 1))), (0, .ref hk), (1, .ref ohk)]) hx hb dX1_copyFrom_46 hl (k := 0) rfl (nI_1 ii) (by decide) rfl (fun ls hl => ?_)
    refine lv_goto (tgt := 2) hx hb dX1_copyFrom_49 (by decide) ?_
    have e1 := kf_cp_L ofw fw ii
    have e2 := kf_cp_I ofz fz ii
    have e3 := kf_cp_I ofv fv ii
    exact ih H locs ls (by omega) (lv_sub hl [0, 1, 2] rfl) (by show va_P G.1 vwCl [(hk, .inr (1, [.ref aw, .ref az, .ref an, .int (nI nn)])), (aw, .inl (gJ G, 120, .inr (.inl (kf_cp ofw fw (ii + 1))))), (az, .inl (gI G, 120, .inl (kf_cp ofz fz (ii + 1)))), (an, .inl (gI G, 120, .inl (kf_cp ofv fv (ii + 1)))), (ohk, .inr (1, [.ref oaw, .ref oaz, .ref oan, .int (nI onn)])), (oaw, .inl (gJ G, 120, .inr (.inl ofw))), (oaz, .inl (gI G, 120, .inl ofz)), (oan, .inl (gI G, 120, .inl ofv))] H; rw [e1, e2, e3]; exact hP) (by show va_D A [(hk, .inr (1, [.ref aw, .ref az, .ref an, .int (nI nn)])), (aw, .inl (gJ G, 120, .inr (.inl (kf_cp ofw fw (ii + 1))))), (az, .inl (gI G, 120, .inl (kf_cp ofz fz (ii + 1)))), (an, .inl (gI G, 120, .inl (kf_cp ofv fv (ii + 1)))), (ohk, .inr (1, [.ref oaw, .ref oaz, .ref oan, .int (nI onn)])), (oaw, .inl (gJ G, 120, .inr (.inl ofw))), (oaz, .inl (gI G, 120, .inl ofz)), (oan, .inl (gI G, 120, .inl ofv))]; rw [e1, e2, e3]; exact hD) hS
end
section
/-- all zeros -/
def kf_z0 : Nat → Nat := fun _ => 0
/-- places st .. i - 1 set to 0 -/
def kf_zr (bs : Nat → Nat) (st i : Nat) : Nat → Nat := fun j => if st ≤ j ∧ j < i then 0 else bs j
theorem kf_zr_id (bs : Nat → Nat) (st : Nat) : kf_zr bs st st = bs := by
  funext j
  unfold kf_zr
  rw [if_neg (by omega)]
theorem kf_zr_s (bs : Nat → Nat) {st i : Nat} (h : st ≤ i) : kf_zr bs st (i + 1) = kz_un (kf_zr bs st i) i 0 := by
  funext j
  unfold kz_un kf_zr
  by_cases hj : j = i
  · subst hj
    rw [if_pos (by omega), if_pos rfl]
  · rw [if_neg hj]
    by_cases h2 : st ≤ j ∧ j < i
    · rw [if_pos (by omega), if_pos h2]
    · rw [if_neg (by omega), if_neg h2]
theorem kf_zr_at (bs : Nat → Nat) {st i : Nat} : kf_zr bs st i i = bs i := by
  unfold kf_zr
  rw [if_neg (by omega)]
/-- a fork under way, longer than st - 1, of size sq -/
def kf_ep (bs : Nat → Nat) (sq st : Nat) : Nat → Bool := fun j => decide (st ≤ j) && (decide (0 < bs j) && decide (kf_sz (bs j) = sq))
theorem kf_ep_iff {bs : Nat → Nat} {sq st j : Nat} : kf_ep bs sq st j = true ↔ (st ≤ j ∧ 0 < bs j ∧ kf_sz (bs j) = sq) := by
  unfold kf_ep
  simp
theorem kf_ep_0 (bs : Nat → Nat) (sq st : Nat) : ∀ i, i ≤ st → kf_cnt (kf_ep bs sq st) i = 0
  | 0, _ => rfl
  | i + 1, h => by
    rw [kf_cnt_n (fun z => by have := (kf_ep_iff.mp z).1; omega)]
    exact kf_ep_0 bs sq st i (by omega)
/-- one branch more -/
def kf_ab (bs : Nat → Nat) (ff : Nat) (kv : Int32) : Nat → Nat := if ff < 8 then kz_un bs ff (bs ff + (if bs ff = 0 ∧ kv = 0 then 2 else 1)) else bs

set_option maxHeartbeats 4000000 in
set_option maxRecDepth 100000 in
theorem c_X0_addBranch (l : Launch) (G : kz_G) (hc ab : Nat) (bs : Nat → Nat) (ff : Nat) (kv : Int32) (sz : Nat) (hff : ff ≤ 8) (hbs : ∀ j, bs j ≤ 100000) : Met l yX0_addBranch wsX0_addBranch { frames := 0, cells := 0, slots := 0, locals := 0 } (kz_Pm G [.ref hc, .int (nI ff), .int kv] [(hc, .inr (0, [.ref ab])), (ab, .inl (gI G, 8, .inl (kz_z bs)))] sz) (kz_Qv G (fun w => w = [(hc, .inr (0, [.ref ab])), (ab, .inl (gI G, 8, .inl (kz_z (kf_ab bs ff kv))))]) (va_A [(hc, .inr (0, [.ref ab])), (ab, .inl (gI G, 8, .inl (kz_z bs)))] sz)) 0 0 (va_A [(hc, .inr (0, [.ref ab])), (ab, .inl (gI G, 8, .inl (kz_z bs)))] sz) := by
  refine Met.ofW (cc := cX0_addBranch) (maxL := 4) (ret := none) (by decide) rfl ?_
  intro p e s m args below meth c s₁ B hml hv
  obtain ⟨rfl, hsz, hP, hK, hD0⟩ := hv
  have hx := B.exec
  have hb := B.bytes
  have hr := B.returns
  have hts := atoms_spec (ws := wsX0_addBranch) B.pre
  have hown : s.vm.findClass RX0 = some m.cls := findClass_of_methodNamed B.named
  have hlocks := B.notSynchronized
  have hinX0 : ∀ w ∈ wsX00, w ∈ wsX0_addBranch := by decide +kernel
  subst hsz
  have hD := hD0.self (sz := s.heap.size)
  generalize hAe : va_A [(hc, .inr (0, [.ref ab])), (ab, .inl (gI G, 8, .inl (kz_z bs)))] s.heap.size = A at hD ⊢
  have hA : ∀ q : Nat, s.heap.size ≤ q → A q := fun q h => by rw [← hAe]; exact Or.inr h
  have hS : va_S A s.heap s.heap [] := va_S.rf
  have hP : va_P G.1 vwCl [(hc, .inr (0, [.ref ab])), (ab, .inl (gI G, 8, .inl (kz_z bs)))] s.heap := hP
  have hl := lv_entry ([.ref hc, .int (nI ff), .int kv]) (n := 4) (Nat.le_of_ble_eq_true rfl)
  rw [lg_entry_eq]
  generalize (lg_sl ([.ref hc, .int (nI ff), .int kv]) ++ List.replicate (4 - (lg_sl ([.ref hc, .int (nI ff), .int kv])).length) Slot.unset).toArray = ls at hl ⊢
  have hl : lv_has ls 4 [(0, .ref hc), (1, .int (nI ff)), (2, .int kv)] := hl
  refine lv_iload_n hx hb dX0_addBranch_0 rfl (lv_at hl 1 rfl) ?_
  refine lv_if_lt (tgt := 13) hx hb dX0_addBranch_1 (by decide) (fun c_1 => ?_) (fun c_1 => ?_)
  · exact absurd c_1 (nI_pos (by omega))
  · refine lv_iload_n hx hb dX0_addBranch_4 rfl (lv_at hl 1 rfl) ?_
    refine lv_aload_n hx hb dX0_addBranch_5 rfl (lv_at hl 0 rfl) ?_
    refine va_get (D := G.1) (ci := 0) (v := .ref ab) (C := RX0) (T := TX0) (N := 1) hx hb hts hinX0 hown hK.1 hP 0 rfl rfl 0 (by decide) (hts (.fieldLink RX0 9 "ForkStore$ForkCounter" "branches" "[I") (by decide +kernel)) (fun _ h9 => h9) rfl dX0_addBranch_6 ?_
    refine va_alen (v := 8) hx hb hK.1 hP 1 0 rfl rfl rfl dX0_addBranch_9 ?_
    refine lv_icmp_lt (tgt := 14) hx hb dX0_addBranch_10 (by decide) (fun c_2 => ?_) (fun c_2 => ?_)
    · have kc_2 : ff < 8 := (nI_ltI (b := 8) (by omega) (by decide)).mp c_2
      have hbf := hbs ff
      refine lv_aload_n hx hb dX0_addBranch_14 rfl (lv_at hl 0 rfl) ?_
      refine va_get (D := G.1) (ci := 0) (v := .ref ab) (C := RX0) (T := TX0) (N := 1) hx hb hts hinX0 hown hK.1 hP 0 rfl rfl 0 (by decide) (hts (.fieldLink RX0 9 "ForkStore$ForkCounter" "branches" "[I") (by decide +kernel)) (fun _ h9 => h9) rfl dX0_addBranch_15 ?_
      refine lv_iload_n hx hb dX0_addBranch_18 rfl (lv_at hl 1 rfl) ?_
      refine kz_iald hx hb hK.1 hP 1 0 rfl rfl (k := ff) (by omega) (by decide) dX0_addBranch_19 ?_
      refine kz_asi (y := nI (bs ff)) rfl ?_
      refine lv_if_ne (tgt := 31) hx hb dX0_addBranch_20 (by decide) (fun c_3 => ?_) (fun c_3 => ?_)
      · have kc_3 : ¬ bs ff = 0 := fun h => c_3 (by rw [h]; rfl)
        refine lv_iconst (v := 0) hx hb dX0_addBranch_31 (by decide) ?_
        refine lv_istore_n (lv' := [(3, .int 0), (0, .ref hc), (1, .int (nI ff)), (2, .int kv)]) hx hb dX0_addBranch_32 rfl hl (by decide) rfl (fun ls hl => ?_)
        refine lv_aload_n hx hb dX0_addBranch_33 rfl (lv_at hl 1 rfl) ?_
        refine va_get (D := G.1) (ci := 0) (v := .ref ab) (C := RX0) (T := TX0) (N := 1) hx hb hts hinX0 hown hK.1 hP 0 rfl rfl 0 (by decide) (hts (.fieldLink RX0 9 "ForkStore$ForkCounter" "branches" "[I") (by decide +kernel)) (fun _ h9 => h9) rfl dX0_addBranch_34 ?_
        refine lv_iload_n hx hb dX0_addBranch_37 rfl (lv_at hl 2 rfl) ?_
        refine lv_dup2_11 hx hb dX0_addBranch_38 rfl rfl ?_
        refine kz_iald hx hb hK.1 hP 1 0 rfl rfl (k := ff) (by omega) (by decide) dX0_addBranch_39 ?_
        refine kz_asi (y := nI (bs ff)) rfl ?_
        refine lv_iload_n hx hb dX0_addBranch_40 rfl (lv_at hl 0 rfl) ?_
        refine lv_if_eq (tgt := 48) hx hb dX0_addBranch_41 (by decide) (fun c_4 => ?_) (fun c_4 => ?_)
        · refine lv_iconst (v := 1) hx hb dX0_addBranch_48 (by decide) ?_
          refine lv_iadd hx hb dX0_addBranch_49 ?_
          refine kz_asi (y := nI (bs ff + 1)) (nI_add (bs ff) 1) ?_
          refine kz_iast hx hb hK.1 hP hD hS 1 0 rfl rfl (k := ff) (by omega) (by decide) dX0_addBranch_50 (fun H locs hP hD hS => ?_)
          have hP : va_P G.1 vwCl [(hc, .inr (0, [.ref ab])), (ab, .inl (gI G, 8, .inl (upd (kz_z bs) ff (nI (bs ff + 1)))))] H := hP
          have hD : va_D A [(hc, .inr (0, [.ref ab])), (ab, .inl (gI G, 8, .inl (upd (kz_z bs) ff (nI (bs ff + 1)))))] := hD
          rw [show upd (kz_z bs) ff (nI (bs ff + 1)) = kz_z (kz_un bs ff (bs ff + 1)) from (kz_zu _ _ _).symm] at hP hD
          have hP : va_P G.1 vwCl [(hc, .inr (0, [.ref ab])), (ab, .inl (gI G, 8, .inl (kz_z (kz_un bs ff (bs ff + 1)))))] H := hP
          have hD : va_D A [(hc, .inr (0, [.ref ab])), (ab, .inl (gI G, 8, .inl (kz_z (kz_un bs ff (bs ff + 1)))))] := hD
          have hq : ([(hc, .inr (0, [.ref ab])), (ab, .inl (gI G, 8, .inl (kz_z (kz_un bs ff (bs ff + 1)))))] : va_W) = [(hc, .inr (0, [.ref ab])), (ab, .inl (gI G, 8, .inl (kz_z (kf_ab bs ff kv))))] := by
            unfold kf_ab
            rw [if_pos kc_2, if_neg (fun h => kc_3 h.1)]
          exact W.vret hx hb hr (fun t ht hW => ⟨⟨([(hc, .inr (0, [.ref ab])), (ab, .inl (gI G, 8, .inl (kz_z (kz_un bs ff (bs ff + 1)))))] : va_W), rfl, hq, by rw [← ht] at hP; exact hP⟩, hS.F ht⟩) hS.2.2 dX0_addBranch_51
        · exact absurd rfl c_4
      · have kc_3 : bs ff = 0 := (nI_eq (b := 0) (by omega) (by decide)).mp c_3
        refine lv_iload_n hx hb dX0_addBranch_23 rfl (lv_at hl 2 rfl) ?_
        refine lv_if_ne (tgt := 31) hx hb dX0_addBranch_24 (by decide) (fun c_5 => ?_) (fun c_5 => ?_)
        · refine lv_iconst (v := 0) hx hb dX0_addBranch_31 (by decide) ?_
          refine lv_istore_n (lv' := [(3, .int 0), (0, .ref hc), (1, .int (nI ff)), (2, .int kv)]) hx hb dX0_addBranch_32 rfl hl (by decide) rfl (fun ls hl => ?_)
          refine lv_aload_n hx hb dX0_addBranch_33 rfl (lv_at hl 1 rfl) ?_
          refine va_get (D := G.1) (ci := 0) (v := .ref ab) (C := RX0) (T := TX0) (N := 1) hx hb hts hinX0 hown hK.1 hP 0 rfl rfl 0 (by decide) (hts (.fieldLink RX0 9 "ForkStore$ForkCounter" "branches" "[I") (by decide +kernel)) (fun _ h9 => h9) rfl dX0_addBranch_34 ?_
          refine lv_iload_n hx hb dX0_addBranch_37 rfl (lv_at hl 2 rfl) ?_
          refine lv_dup2_11 hx hb dX0_addBranch_38 rfl rfl ?_
          refine kz_iald hx hb hK.1 hP 1 0 rfl rfl (k := ff) (by omega) (by decide) dX0_addBranch_39 ?_
          refine kz_asi (y := nI (bs ff)) rfl ?_
          refine lv_iload_n hx hb dX0_addBranch_40 rfl (lv_at hl 0 rfl) ?_
          refine lv_if_eq (tgt := 48) hx hb dX0_addBranch_41 (by decide) (fun c_6 => ?_) (fun c_6 => ?_)
          · refine lv_iconst (v := 1) hx hb dX0_addBranch_48 (by decide) ?_
            refine lv_iadd hx hb dX0_addBranch_49 ?_
            refine kz_asi (y := nI (bs ff + 1)) (nI_add (bs ff) 1) ?_
            refine kz_iast hx hb hK.1 hP hD hS 1 0 rfl rfl (k := ff) (by omega) (by decide) dX0_addBranch_50 (fun H locs hP hD hS => ?_)
            have hP : va_P G.1 vwCl [(hc, .inr (0, [.ref ab])), (ab, .inl (gI G, 8, .inl (upd (kz_z bs) ff (nI (bs ff + 1)))))] H := hP
            have hD : va_D A [(hc, .inr (0, [.ref ab])), (ab, .inl (gI G, 8, .inl (upd (kz_z bs) ff (nI (bs ff + 1)))))] := hD
            rw [show upd (kz_z bs) ff (nI (bs ff + 1)) = kz_z (kz_un bs ff (bs ff + 1)) from (kz_zu _ _ _).symm] at hP hD
            have hP : va_P G.1 vwCl [(hc, .inr (0, [.ref ab])), (ab, .inl (gI G, 8, .inl (kz_z (kz_un bs ff (bs ff + 1)))))] H := hP
            have hD : va_D A [(hc, .inr (0, [.ref ab])), (ab, .inl (gI G, 8, .inl (kz_z (kz_un bs ff (bs ff + 1)))))] := hD
            have hq : ([(hc, .inr (0, [.ref ab])), (ab, .inl (gI G, 8, .inl (kz_z (kz_un bs ff (bs ff + 1)))))] : va_W) = [(hc, .inr (0, [.ref ab])), (ab, .inl (gI G, 8, .inl (kz_z (kf_ab bs ff kv))))] := by
              unfold kf_ab
              rw [if_pos kc_2, if_neg (fun h => c_5 h.2)]
            exact W.vret hx hb hr (fun t ht hW => ⟨⟨([(hc, .inr (0, [.ref ab])), (ab, .inl (gI G, 8, .inl (kz_z (kz_un bs ff (bs ff + 1)))))] : va_W), rfl, hq, by rw [← ht] at hP; exact hP⟩, hS.F ht⟩) hS.2.2 dX0_addBranch_51
          · exact absurd rfl c_6
        · refine lv_iconst (v := 1) hx hb dX0_addBranch_27 (by decide) ?_
          refine lv_goto (tgt := 32) hx hb dX0_addBranch_28 (by decide) ?_
          refine lv_istore_n (lv' := [(3, .int 1), (0, .ref hc), (1, .int (nI ff)), (2, .int kv)]) hx hb dX0_addBranch_32 rfl hl (by decide) rfl (fun ls hl => ?_)
          refine lv_aload_n hx hb dX0_addBranch_33 rfl (lv_at hl 1 rfl) ?_
          refine va_get (D := G.1) (ci := 0) (v := .ref ab) (C := RX0) (T := TX0) (N := 1) hx hb hts hinX0 hown hK.1 hP 0 rfl rfl 0 (by decide) (hts (.fieldLink RX0 9 "ForkStore$ForkCounter" "branches" "[I") (by decide +kernel)) (fun _ h9 => h9) rfl dX0_addBranch_34 ?_
          refine lv_iload_n hx hb dX0_addBranch_37 rfl (lv_at hl 2 rfl) ?_
          refine lv_dup2_11 hx hb dX0_addBranch_38 rfl rfl ?_
          refine kz_iald hx hb hK.1 hP 1 0 rfl rfl (k := ff) (by omega) (by decide) dX0_addBranch_39 ?_
          refine kz_asi (y := nI (bs ff)) rfl ?_
          refine lv_iload_n hx hb dX0_addBranch_40 rfl (lv_at hl 0 rfl) ?_
          refine lv_if_eq (tgt := 48) hx hb dX0_addBranch_41 (by decide) (fun c_7 => ?_) (fun c_7 => ?_)
          · exact absurd c_7 (by decide)
          · refine lv_iconst (v := 2) hx hb dX0_addBranch_44 (by decide) ?_
            refine lv_goto (tgt := 49) hx hb dX0_addBranch_45 (by decide) ?_
            refine lv_iadd hx hb dX0_addBranch_49 ?_
            refine kz_asi (y := nI (bs ff + 2)) (nI_add (bs ff) 2) ?_
            refine kz_iast hx hb hK.1 hP hD hS 1 0 rfl rfl (k := ff) (by omega) (by decide) dX0_addBranch_50 (fun H locs hP hD hS => ?_)
            have hP : va_P G.1 vwCl [(hc, .inr (0, [.ref ab])), (ab, .inl (gI G, 8, .inl (upd (kz_z bs) ff (nI (bs ff + 2)))))] H := hP
            have hD : va_D A [(hc, .inr (0, [.ref ab])), (ab, .inl (gI G, 8, .inl (upd (kz_z bs) ff (nI (bs ff + 2)))))] := hD
            rw [show upd (kz_z bs) ff (nI (bs ff + 2)) = kz_z (kz_un bs ff (bs ff + 2)) from (kz_zu _ _ _).symm] at hP hD
            have hP : va_P G.1 vwCl [(hc, .inr (0, [.ref ab])), (ab, .inl (gI G, 8, .inl (kz_z (kz_un bs ff (bs ff + 2)))))] H := hP
            have hD : va_D A [(hc, .inr (0, [.ref ab])), (ab, .inl (gI G, 8, .inl (kz_z (kz_un bs ff (bs ff + 2)))))] := hD
            have hq : ([(hc, .inr (0, [.ref ab])), (ab, .inl (gI G, 8, .inl (kz_z (kz_un bs ff (bs ff + 2)))))] : va_W) = [(hc, .inr (0, [.ref ab])), (ab, .inl (gI G, 8, .inl (kz_z (kf_ab bs ff kv))))] := by
              unfold kf_ab
              rw [if_pos kc_2, if_pos ⟨kc_3, c_5⟩]
            exact W.vret hx hb hr (fun t ht hW => ⟨⟨([(hc, .inr (0, [.ref ab])), (ab, .inl (gI G, 8, .inl (kz_z (kz_un bs ff (bs ff + 2)))))] : va_W), rfl, hq, by rw [← ht] at hP; exact hP⟩, hS.F ht⟩) hS.2.2 dX0_addBranch_51
    · have kc_2 : ¬ ff < 8 := fun h => c_2 (nI_lt (b := 8) h (by decide))
      have hq : ([(hc, .inr (0, [.ref ab])), (ab, .inl (gI G, 8, .inl (kz_z bs)))] : va_W) = [(hc, .inr (0, [.ref ab])), (ab, .inl (gI G, 8, .inl (kz_z (kf_ab bs ff kv))))] := by
        unfold kf_ab
        rw [if_neg kc_2]
      exact W.vret hx hb hr (fun t ht hW => ⟨⟨([(hc, .inr (0, [.ref ab])), (ab, .inl (gI G, 8, .inl (kz_z bs)))] : va_W), rfl, hq, by rw [← ht] at hP; exact hP⟩, hS.F ht⟩) hS.2.2 dX0_addBranch_13

theorem kf_sz_le (b : Nat) : kf_sz b ≤ 3 := by
  unfold kf_sz
  split
  · omega
  · split
    · omega
    · split <;> omega

set_option maxHeartbeats 4000000 in
set_option maxRecDepth 100000 in
theorem c_X0_endLongerThan (l : Launch) (G : kz_G) (hc ab : Nat) (bs : Nat → Nat) (fk : Int32) (st sq : Nat) (sz : Nat) (hst : fk + 1 = nI st) (hst9 : st ≤ 9) (hsq : sq ≤ 3) (hbs : ∀ j, bs j ≤ 100000) : Met l yX0_endLongerThan wsX0_endLongerThan { frames := 1, cells := 0, slots := 0, locals := 21 } (kz_Pm G [.ref hc, .int fk, .int (nI sq)] [(hc, .inr (0, [.ref ab])), (ab, .inl (gI G, 8, .inl (kz_z bs)))] sz) (kz_Qi G (fun r w => r = nI (kf_cnt (kf_ep bs sq st) (max st 8)) ∧ w = [(hc, .inr (0, [.ref ab])), (ab, .inl (gI G, 8, .inl (kz_z (kf_zr bs st (max st 8)))))]) (va_A [(hc, .inr (0, [.ref ab])), (ab, .inl (gI G, 8, .inl (kz_z bs)))] sz)) 0 0 (va_A [(hc, .inr (0, [.ref ab])), (ab, .inl (gI G, 8, .inl (kz_z bs)))] sz) := by
  refine Met.ofW (cc := cX0_endLongerThan) (maxL := 5) (ret := (some .int)) (by decide) rfl ?_
  intro p e s m args below meth c s₁ B hml hv
  obtain ⟨rfl, hsz, hP, hK, hD0⟩ := hv
  have hx := B.exec
  have hb := B.bytes
  have hr := B.returns
  have hts := atoms_spec (ws := wsX0_endLongerThan) B.pre
  have hown : s.vm.findClass RX0 = some m.cls := findClass_of_methodNamed B.named
  have hlocks := B.notSynchronized
  have hinX0 : ∀ w ∈ wsX00, w ∈ wsX0_endLongerThan := by decide +kernel
  subst hsz
  have hD := hD0.self (sz := s.heap.size)
  generalize hAe : va_A [(hc, .inr (0, [.ref ab])), (ab, .inl (gI G, 8, .inl (kz_z bs)))] s.heap.size = A at hD ⊢
  have hA : ∀ q : Nat, s.heap.size ≤ q → A q := fun q h => by rw [← hAe]; exact Or.inr h
  have hS : va_S A s.heap s.heap [] := va_S.rf
  have hP : va_P G.1 vwCl [(hc, .inr (0, [.ref ab])), (ab, .inl (gI G, 8, .inl (kz_z bs)))] s.heap := hP
  have hl := lv_entry ([.ref hc, .int fk, .int (nI sq)]) (n := 5) (Nat.le_of_ble_eq_true rfl)
  rw [lg_entry_eq]
  generalize (lg_sl ([.ref hc, .int fk, .int (nI sq)]) ++ List.replicate (5 - (lg_sl ([.ref hc, .int fk, .int (nI sq)])).length) Slot.unset).toArray = ls at hl ⊢
  have hl : lv_has ls 5 [(0, .ref hc), (1, .int fk), (2, .int (nI sq))] := hl
  refine lv_iconst (v := 0) hx hb dX0_endLongerThan_0 (by decide) ?_
  refine lv_istore_n (lv' := [(3, .int 0), (0, .ref hc), (1, .int fk), (2, .int (nI sq))]) hx hb dX0_endLongerThan_1 rfl hl (by decide) rfl (fun ls hl => ?_)
  refine lv_iload_n hx hb dX0_endLongerThan_2 rfl (lv_at hl 2 rfl) ?_
  refine lv_iconst (v := 1) hx hb dX0_endLongerThan_3 (by decide) ?_
  refine lv_iadd hx hb dX0_endLongerThan_4 ?_
  refine kz_asi (y := nI st) hst ?_
  refine lv_iconst (v := 0) hx hb dX0_endLongerThan_5 (by decide) ?_
  refine va_mmax hx hb (by rw [hml]; exact hl.1.symm) hown (hts (.methodLink RX0 36 Lib.Math.max.name) (by decide +kernel)) (hts (.static Lib.Math.max.name) (by decide +kernel)) (hts (.initialized "java/lang/Math") (by decide +kernel)) (hts (.code Lib.Math.max.name Lib.Math.max.code 2 (some .int)) (by decide +kernel)) (Nat.le_of_ble_eq_true rfl) (Nat.le_of_ble_eq_true rfl) (Nat.zero_le _) (Nat.zero_le _) dX0_endLongerThan_6 ?_
  refine kz_asi (y := nI st) (if_neg (nI_pos (by omega))) ?_
  refine lv_istore (lv' := [(4, .int (nI st)), (3, .int 0), (0, .ref hc), (1, .int fk), (2, .int (nI sq))]) hx hb dX0_endLongerThan_9 hl (by decide) rfl (fun ls hl => ?_)
  refine kz_loopm (D := G.1) (cl := vwCl) (A := A) (H0 := s.heap) (nL := 5) (hd := 11) (e9 := 8 - st) (i0 := 0) (LV := fun ii => [(3, .int (nI (kf_cnt (kf_ep bs sq st) (st + ii)))), (4, .int (nI (st + ii))), (0, .ref hc), (2, .int (nI sq))]) (WV := fun ii => [(hc, .inr (0, [.ref ab])), (ab, .inl (gI G, 8, .inl (kz_z (kf_zr bs st (st + ii)))))]) (fun ii H locs ls hii hl hP hD hS ih => ?_) (Nat.zero_le _) (by simp only [Nat.add_zero, kf_ep_0 bs sq st st (Nat.le_refl _)]; exact lv_sub hl [1, 0, 2, 4] rfl) (by simp only [Nat.add_zero, kf_zr_id]; exact hP) (by simp only [Nat.add_zero, kf_zr_id]; exact hD) hS
  have hl : lv_has ls 5 [(3, .int (nI (kf_cnt (kf_ep bs sq st) (st + ii)))), (4, .int (nI (st + ii))), (0, .ref hc), (2, .int (nI sq))] := hl
  have hP : va_P G.1 vwCl [(hc, .inr (0, [.ref ab])), (ab, .inl (gI G, 8, .inl (kz_z (kf_zr bs st (st + ii)))))] H := hP
  have hD : va_D A [(hc, .inr (0, [.ref ab])), (ab, .inl (gI G, 8, .inl (kz_z (kf_zr bs st (st + ii)))))] := hD
  refine lv_iload hx hb dX0_endLongerThan_11 (lv_at hl 1 rfl) ?_
  refine lv_aload_n hx hb dX0_endLongerThan_13 rfl (lv_at hl 2 rfl) ?_
  refine va_get (D := G.1) (ci := 0) (v := .ref ab) (C := RX0) (T := TX0) (N := 1) hx hb hts hinX0 hown hK.1 hP 0 rfl rfl 0 (by decide) (hts (.fieldLink RX0 9 "ForkStore$ForkCounter" "branches" "[I") (by decide +kernel)) (fun _ h9 => h9) rfl dX0_endLongerThan_14 ?_
  refine va_alen (v := 8) hx hb hK.1 hP 1 0 rfl rfl rfl dX0_endLongerThan_17 ?_
  refine lv_icmp_ge (tgt := 62) hx hb dX0_endLongerThan_18 (by decide) (fun c_1 => ?_) (fun c_1 => ?_)
  · have kc_1 : 8 ≤ st + ii := (nI_leI (a := 8) (by decide) (by omega)).mp c_1
    refine lv_iload_n hx hb dX0_endLongerThan_62 rfl (lv_at hl 0 rfl) ?_
    exact W.iret (v := nI (kf_cnt (kf_ep bs sq st) (st + ii))) hx hb hr (fun t ht hW => ⟨⟨_, ([(hc, .inr (0, [.ref ab])), (ab, .inl (gI G, 8, .inl (kz_z (kf_zr bs st (st + ii)))))] : va_W), rfl, ⟨by rw [show st + ii = max st 8 from by omega], by rw [show st + ii = max st 8 from by omega]⟩, by rw [← ht] at hP; exact hP⟩, hS.F ht⟩) hS.2.2 dX0_endLongerThan_63
  · have kc_1 : st + ii < 8 := Nat.lt_of_not_le (fun h => c_1 (nI_le (a := 8) h (by omega)))
    have hbi := hbs (st + ii)
    refine lv_aload_n hx hb dX0_endLongerThan_21 rfl (lv_at hl 2 rfl) ?_
    refine va_get (D := G.1) (ci := 0) (v := .ref ab) (C := RX0) (T := TX0) (N := 1) hx hb hts hinX0 hown hK.1 hP 0 rfl rfl 0 (by decide) (hts (.fieldLink RX0 9 "ForkStore$ForkCounter" "branches" "[I") (by decide +kernel)) (fun _ h9 => h9) rfl dX0_endLongerThan_22 ?_
    refine lv_iload hx hb dX0_endLongerThan_25 (lv_at hl 1 rfl) ?_
    refine kz_iald hx hb hK.1 hP 1 0 rfl rfl (k := (st + ii)) (by omega) (by decide) dX0_endLongerThan_27 ?_
    refine kz_asi (y := nI ((kf_zr bs st (st + ii)) (st + ii))) rfl ?_
    refine kz_asi (y := nI (bs (st + ii))) (by rw [kf_zr_at]) ?_
    refine lv_if_le (tgt := 48) hx hb dX0_endLongerThan_28 (by decide) (fun c_2 => ?_) (fun c_2 => ?_)
    · have hno : ¬ kf_ep bs sq st (st + ii) = true := fun h => absurd (nI_lt (a := 0) (kf_ep_iff.mp h).2.1 (by omega)) (Int32.not_lt.mpr c_2)
      refine lv_aload_n hx hb dX0_endLongerThan_48 rfl (lv_at hl 2 rfl) ?_
      refine va_get (D := G.1) (ci := 0) (v := .ref ab) (C := RX0) (T := TX0) (N := 1) hx hb hts hinX0 hown hK.1 hP 0 rfl rfl 0 (by decide) (hts (.fieldLink RX0 9 "ForkStore$ForkCounter" "branches" "[I") (by decide +kernel)) (fun _ h9 => h9) rfl dX0_endLongerThan_49 ?_
      refine lv_iload hx hb dX0_endLongerThan_52 (lv_at hl 1 rfl) ?_
      refine lv_iconst (v := 0) hx hb dX0_endLongerThan_54 (by decide) ?_
      refine kz_iast hx hb hK.1 hP hD hS 1 0 rfl rfl (k := (st + ii)) (by omega) (by decide) dX0_endLongerThan_55 (fun H locs hP hD hS => ?_)
      have hP : va_P G.1 vwCl [(hc, .inr (0, [.ref ab])), (ab, .inl (gI G, 8, .inl (upd (kz_z (kf_zr bs st (st + ii))) (st + ii) 0)))] H := hP
      have hD : va_D A [(hc, .inr (0, [.ref ab])), (ab, .inl (gI G, 8, .inl (upd (kz_z (kf_zr bs st (st + ii))) (st + ii) 0)))] := hD
      rw [show upd (kz_z (kf_zr bs st (st + ii))) (st + ii) 0 = kz_z (kz_un (kf_zr bs st (st + ii)) (st + ii) 0) from (kz_zu _ _ _).symm] at hP hD
      have hP : va_P G.1 vwCl [(hc, .inr (0, [.ref ab])), (ab, .inl (gI G, 8, .inl (kz_z (kz_un (kf_zr bs st (st + ii)) (st + ii) 0))))] H := hP
      have hD : va_D A [(hc, .inr (0, [.ref ab])), (ab, .inl (gI G, 8, .inl (kz_z (kz_un (kf_zr bs st (st + ii)) (st + ii) 0))))] := hD
      refine lv_iinc (v := nI (st + (ii + 1))) (lv' := [(4, .int (nI (st + (ii + 1)))), (3, .int (nI (kf_cnt (kf_ep bs sq st) (st + ii)))), (0, .ref hc), (2, .int (nI sq))]) hx hb dX0_endLongerThan_56 hl (k := 1) rfl (nI_1 (st + ii)) (by decide) rfl (fun ls hl => ?_)
      refine lv_goto (tgt := 11) hx hb dX0_endLongerThan_59 (by decide) ?_
      have e1 := kf_zr_s bs (st := st) (i := st + ii) (Nat.le_add_right _ _)
      exact ih H locs ls (by omega) (by have e9 := kf_cnt_n hno; simp only [← Nat.add_assoc, e9]; exact lv_sub hl [1, 0, 2, 3] rfl) (by show va_P G.1 vwCl [(hc, .inr (0, [.ref ab])), (ab, .inl (gI G, 8, .inl (kz_z (kf_zr bs st (st + ii + 1)))))] H; rw [e1]; exact hP) (by show va_D A [(hc, .inr (0, [.ref ab])), (ab, .inl (gI G, 8, .inl (kz_z (kf_zr bs st (st + ii + 1)))))]; rw [e1]; exact hD) hS
    · have kc_2 : 0 < bs (st + ii) := (nI_ltI (a := 0) (by decide) (by omega)).mp (Int32.not_le.mp c_2)
      refine lv_aload_n hx hb dX0_endLongerThan_31 rfl (lv_at hl 2 rfl) ?_
      refine va_get (D := G.1) (ci := 0) (v := .ref ab) (C := RX0) (T := TX0) (N := 1) hx hb hts hinX0 hown hK.1 hP 0 rfl rfl 0 (by decide) (hts (.fieldLink RX0 9 "ForkStore$ForkCounter" "branches" "[I") (by decide +kernel)) (fun _ h9 => h9) rfl dX0_endLongerThan_32 ?_
      refine lv_iload hx hb dX0_endLongerThan_35 (lv_at hl 1 rfl) ?_
      refine kz_iald hx hb hK.1 hP 1 0 rfl rfl (k := (st + ii)) (by omega) (by decide) dX0_endLongerThan_37 ?_
      refine kz_asi (y := nI ((kf_zr bs st (st + ii)) (st + ii))) rfl ?_
      refine kz_asi (y := nI (bs (st + ii))) (by rw [kf_zr_at]) ?_
      refine kz_ci (v := nI (kf_sz (bs (st + ii)))) (va_runS (As := [.int (nI (bs (st + ii)))]) (rest := []) ⟨hx, hb, hml, hown, hts⟩ (c_X0_sizeOf l (bs (st + ii)) (by omega)) (va_cwS 1 hts gX0_endLongerThan_X0_sizeOf rfl rfl rfl (by decide +kernel) ⟨Nat.le_of_ble_eq_true rfl, Nat.le_of_ble_eq_true rfl⟩) kz_ps0 rfl rfl hl.1 rfl (lv_room (Nat.le_of_ble_eq_true rfl)) dX0_endLongerThan_38 ⟨Nat.zero_le _, Nat.zero_le _⟩).run ?_
      refine lv_iload_n hx hb dX0_endLongerThan_41 rfl (lv_at hl 3 rfl) ?_
      refine lv_icmp_ne (tgt := 48) hx hb dX0_endLongerThan_42 (by decide) (fun c_3 => ?_) (fun c_3 => ?_)
      · have hno : ¬ kf_ep bs sq st (st + ii) = true := fun h => c_3 (by rw [(kf_ep_iff.mp h).2.2])
        refine lv_aload_n hx hb dX0_endLongerThan_48 rfl (lv_at hl 2 rfl) ?_
        refine va_get (D := G.1) (ci := 0) (v := .ref ab) (C := RX0) (T := TX0) (N := 1) hx hb hts hinX0 hown hK.1 hP 0 rfl rfl 0 (by decide) (hts (.fieldLink RX0 9 "ForkStore$ForkCounter" "branches" "[I") (by decide +kernel)) (fun _ h9 => h9) rfl dX0_endLongerThan_49 ?_
        refine lv_iload hx hb dX0_endLongerThan_52 (lv_at hl 1 rfl) ?_
        refine lv_iconst (v := 0) hx hb dX0_endLongerThan_54 (by decide) ?_
        refine kz_iast hx hb hK.1 hP hD hS 1 0 rfl rfl (k := (st + ii)) (by omega) (by decide) dX0_endLongerThan_55 (fun H locs hP hD hS => ?_)
        have hP : va_P G.1 vwCl [(hc, .inr (0, [.ref ab])), (ab, .inl (gI G, 8, .inl (upd (kz_z (kf_zr bs st (st + ii))) (st + ii) 0)))] H := hP
        have hD : va_D A [(hc, .inr (0, [.ref ab])), (ab, .inl (gI G, 8, .inl (upd (kz_z (kf_zr bs st (st + ii))) (st + ii) 0)))] := hD
        rw [show upd (kz_z (kf_zr bs st (st + ii))) (st + ii) 0 = kz_z (kz_un (kf_zr bs st (st + ii)) (st + ii) 0) from (kz_zu _ _ _).symm] at hP hD
        have hP : va_P G.1 vwCl [(hc, .inr (0, [.ref ab])), (ab, .inl (gI G, 8, .inl (kz_z (kz_un (kf_zr bs st (st + ii)) (st + ii) 0))))] H := hP
        have hD : va_D A [(hc, .inr (0, [.ref ab])), (ab, .inl (gI G, 8, .inl (kz_z (kz_un (kf_zr bs st (st + ii)) (st + ii) 0))))] := hD
        refine lv_iinc (v := nI (st + (ii + 1))) (lv' := [(4, .int (nI (st + (ii + 1)))), (3, .int (nI (kf_cnt (kf_ep bs sq st) (st + ii)))), (0, .ref hc), (2, .int (nI sq))]) hx hb dX0_endLongerThan_56 hl (k := 1) rfl (nI_1 (st + ii)) (by decide) rfl (fun ls hl => ?_)
        refine lv_goto (tgt := 11) hx hb dX0_endLongerThan_59 (by decide) ?_
        have e1 := kf_zr_s bs (st := st) (i := st + ii) (Nat.le_add_right _ _)
        exact ih H locs ls (by omega) (by have e9 := kf_cnt_n hno; simp only [← Nat.add_assoc, e9]; exact lv_sub hl [1, 0, 2, 3] rfl) (by show va_P G.1 vwCl [(hc, .inr (0, [.ref ab])), (ab, .inl (gI G, 8, .inl (kz_z (kf_zr bs st (st + ii + 1)))))] H; rw [e1]; exact hP) (by show va_D A [(hc, .inr (0, [.ref ab])), (ab, .inl (gI G, 8, .inl (kz_z (kf_zr bs st (st + ii + 1)))))]; rw [e1]; exact hD) hS
      · have hyes : kf_ep bs sq st (st + ii) = true := kf_ep_iff.mpr ⟨Nat.le_add_right _ _, kc_2, (nI_eq (by have := kf_sz_le (bs (st + ii)); omega) (by omega)).mp c_3⟩
        refine lv_iinc (v := nI (kf_cnt (kf_ep bs sq st) (st + ii + 1))) (lv' := [(3, .int (nI (kf_cnt (kf_ep bs sq st) (st + ii + 1)))), (4, .int (nI (st + ii))), (0, .ref hc), (2, .int (nI sq))]) hx hb dX0_endLongerThan_45 hl (k := 0) rfl (by rw [kf_cnt_y hyes]; exact nI_1 _) (by decide) rfl (fun ls hl => ?_)
        refine lv_aload_n hx hb dX0_endLongerThan_48 rfl (lv_at hl 2 rfl) ?_
        refine va_get (D := G.1) (ci := 0) (v := .ref ab) (C := RX0) (T := TX0) (N := 1) hx hb hts hinX0 hown hK.1 hP 0 rfl rfl 0 (by decide) (hts (.fieldLink RX0 9 "ForkStore$ForkCounter" "branches" "[I") (by decide +kernel)) (fun _ h9 => h9) rfl dX0_endLongerThan_49 ?_
        refine lv_iload hx hb dX0_endLongerThan_52 (lv_at hl 1 rfl) ?_
        refine lv_iconst (v := 0) hx hb dX0_endLongerThan_54 (by decide) ?_
        refine kz_iast hx hb hK.1 hP hD hS 1 0 rfl rfl (k := (st + ii)) (by omega) (by decide) dX0_endLongerThan_55 (fun H locs hP hD hS => ?_)
        have hP : va_P G.1 vwCl [(hc, .inr (0, [.ref ab])), (ab, .inl (gI G, 8, .inl (upd (kz_z (kf_zr bs st (st + ii))) (st + ii) 0)))] H := hP
        have hD : va_D A [(hc, .inr (0, [.ref ab])), (ab, .inl (gI G, 8, .inl (upd (kz_z (kf_zr bs st (st + ii))) (st + ii) 0)))] := hD
        rw [show upd (kz_z (kf_zr bs st (st + ii))) (st + ii) 0 = kz_z (kz_un (kf_zr bs st (st + ii)) (st + ii) 0) from (kz_zu _ _ _).symm] at hP hD
        have hP : va_P G.1 vwCl [(hc, .inr (0, [.ref ab])), (ab, .inl (gI G, 8, .inl (kz_z (kz_un (kf_zr bs st (st + ii)) (st + ii) 0))))] H := hP
        have hD : va_D A [(hc, .inr (0, [.ref ab])), (ab, .inl (gI G, 8, .inl (kz_z (kz_un (kf_zr bs st (st + ii)) (st + ii) 0))))] := hD
        refine lv_iinc (v := nI (st + (ii + 1))) (lv' := [(4, .int (nI (st + (ii + 1)))), (3, .int (nI (kf_cnt (kf_ep bs sq st) (st + ii + 1)))), (0, .ref hc), (2, .int (nI sq))]) hx hb dX0_endLongerThan_56 hl (k := 1) rfl (nI_1 (st + ii)) (by decide) rfl (fun ls hl => ?_)
        refine lv_goto (tgt := 11) hx hb dX0_endLongerThan_59 (by decide) ?_
        have e1 := kf_zr_s bs (st := st) (i := st + ii) (Nat.le_add_right _ _)
        exact ih H locs ls (by omega) (lv_sub hl [1, 0, 2, 3] rfl) (by show va_P G.1 vwCl [(hc, .inr (0, [.ref ab])), (ab, .inl (gI G, 8, .inl (kz_z (kf_zr bs st (st + ii + 1)))))] H; rw [e1]; exact hP) (by show va_D A [(hc, .inr (0, [.ref ab])), (ab, .inl (gI G, 8, .inl (kz_z (kf_zr bs st (st + ii + 1)))))]; rw [e1]; exact hD) hS
end
section
/-- the walk of ForkCounter.countOfSize: behind i turns, what was found, and the branches under way -/
def kf_cs (fw : Nat → Int64) (zs : Nat → Nat) (sq : Nat) : Nat → Nat × (Nat → Nat)
  | 0 => (0, kf_z0)
  | i + 1 => ((kf_cs fw zs sq i).1 + kf_cnt (kf_ep (kf_cs fw zs sq i).2 sq (kf_fk fw zs i + 1)) (max (kf_fk fw zs i + 1) 8), kf_ab (kf_zr (kf_cs fw zs sq i).2 (kf_fk fw zs i + 1) (max (kf_fk fw zs i + 1) 8)) (kf_fk fw zs i) (if zs i = kf_fk fw zs i then 1 else 0))
theorem kf_zr_le (bs : Nat → Nat) (st i j : Nat) : kf_zr bs st i j ≤ bs j := by
  unfold kf_zr
  split <;> omega
theorem kf_ab_le {bs : Nat → Nat} {m : Nat} (h : ∀ j, bs j ≤ m) (ff : Nat) (kv : Int32) (j : Nat) : kf_ab bs ff kv j ≤ m + 2 := by
  have h1 := h j
  unfold kf_ab
  split
  · unfold kz_un
    split
    · have h2 := h ff
      split <;> omega
    · omega
  · omega
theorem kf_cs_le (fw : Nat → Int64) (zs : Nat → Nat) (sq : Nat) : ∀ i j, (kf_cs fw zs sq i).2 j ≤ 2 * i
  | 0, j => Nat.le_refl _
  | i + 1, j => kf_ab_le (m := 2 * i) (fun j => Nat.le_trans (kf_zr_le _ _ _ j) (kf_cs_le fw zs sq i j)) _ _ j
theorem kf_cs_hi (fw : Nat → Int64) (zs : Nat → Nat) (sq : Nat) : ∀ i j, 8 ≤ j → (kf_cs fw zs sq i).2 j = 0
  | 0, j, _ => rfl
  | i + 1, j, h => by
    have h1 := kf_cs_hi fw zs sq i j h
    have h2 : kf_zr (kf_cs fw zs sq i).2 (kf_fk fw zs i + 1) (max (kf_fk fw zs i + 1) 8) j = 0 := by
      have := kf_zr_le (kf_cs fw zs sq i).2 (kf_fk fw zs i + 1) (max (kf_fk fw zs i + 1) 8) j
      omega
    show kf_ab _ _ _ j = 0
    unfold kf_ab
    split
    · unfold kz_un
      rw [if_neg (by omega)]
      exact h2
    · exact h2
theorem kf_cs_end (fw : Nat → Int64) (zs : Nat → Nat) (sq i : Nat) : kf_zr (kf_cs fw zs sq i).2 0 (max 0 8) = kf_z0 := by
  funext j
  unfold kf_zr kf_z0
  split
  · rfl
  · exact kf_cs_hi fw zs sq i j (by omega)
/-- ForkCounter.countOfSize -/
def kf_forks (fw : Nat → Int64) (zs : Nat → Nat) (sq nn : Nat) : Nat := (kf_cs fw zs sq (nn - 1)).1 + kf_cnt (kf_ep (kf_cs fw zs sq (nn - 1)).2 sq 0) (max 0 8)

set_option maxHeartbeats 4000000 in
set_option maxRecDepth 100000 in
theorem c_X0_countOfSize (l : Launch) (G : kz_G) (hc ab : Nat) (hk aw az an nn : Nat) (fw : Nat → Int64) (zs : Nat → Nat) (fv : Nat → Int32) (sq : Nat) (sz : Nat) (hn : nn ≤ 120) (hz : ∀ j, zs j ≤ 8) (hsq : sq ≤ 3) : Met l yX0_countOfSize wsX0_countOfSize { frames := 4, cells := 0, slots := 0, locals := 90 } (kz_Pm G [.ref hc, .ref hk, .int (nI sq)] [(hc, .inr (0, [.ref ab])), (ab, .inl (gI G, 8, .inl (kz_z kf_z0))), (hk, .inr (1, [.ref aw, .ref az, .ref an, .int (nI nn)])), (aw, .inl (gJ G, 120, .inr (.inl fw))), (az, .inl (gI G, 120, .inl (kz_z zs))), (an, .inl (gI G, 120, .inl fv))] sz) (kz_Qi G (fun r w => r = nI (kf_forks fw zs sq nn) ∧ w = [(hc, .inr (0, [.ref ab])), (ab, .inl (gI G, 8, .inl (kz_z kf_z0))), (hk, .inr (1, [.ref aw, .ref az, .ref an, .int (nI nn)])), (aw, .inl (gJ G, 120, .inr (.inl fw))), (az, .inl (gI G, 120, .inl (kz_z zs))), (an, .inl (gI G, 120, .inl fv))]) (va_A [(hc, .inr (0, [.ref ab])), (ab, .inl (gI G, 8, .inl (kz_z kf_z0))), (hk, .inr (1, [.ref aw, .ref az, .ref an, .int (nI nn)])), (aw, .inl (gJ G, 120, .inr (.inl fw))), (az, .inl (gI G, 120, .inl (kz_z zs))), (an, .inl (gI G, 120, .inl fv))] sz)) 0 0 (va_A [(hc, .inr (0, [.ref ab])), (ab, .inl (gI G, 8, .inl (kz_z kf_z0))), (hk, .inr (1, [.ref aw, .ref az, .ref an, .int (nI nn)])), (aw, .inl (gJ G, 120, .inr (.inl fw))), (az, .inl (gI G, 120, .inl (kz_z zs))), (an, .inl (gI G, 120, .inl fv))] sz) := by
  refine Met.ofW (cc := cX0_countOfSize) (maxL := 6) (ret := (some .int)) (by decide) rfl ?_
  intro p e s m args below meth c s₁ B hml hv
  obtain ⟨rfl, hsz, hP, hK, hD0⟩ := hv
  have hx := B.exec
  have hb := B.bytes
  have hr := B.returns
  have hts := atoms_spec (ws := wsX0_countOfSize) B.pre
  have hown : s.vm.findClass RX0 = some m.cls := findClass_of_methodNamed B.named
  have hlocks := B.notSynchronized
  subst hsz
  have hD := hD0.self (sz := s.heap.size)
  generalize hAe : va_A [(hc, .inr (0, [.ref ab])), (ab, .inl (gI G, 8, .inl (kz_z kf_z0))), (hk, .inr (1, [.ref aw, .ref az, .ref an, .int (nI nn)])), (aw, .inl (gJ G, 120, .inr (.inl fw))), (az, .inl (gI G, 120, .inl (kz_z zs))), (an, .inl (gI G, 120, .inl fv))] s.heap.size = A at hD ⊢
  have hA : ∀ q : Nat, s.heap.size ≤ q → A q := fun q h => by rw [← hAe]; exact Or.inr h
  have hS : va_S A s.heap s.heap [] := va_S.rf
  have hP : va_P G.1 vwCl [(hc, .inr (0, [.ref ab])), (ab, .inl (gI G, 8, .inl (kz_z kf_z0))), (hk, .inr (1, [.ref aw, .ref az, .ref an, .int (nI nn)])), (aw, .inl (gJ G, 120, .inr (.inl fw))), (az, .inl (gI G, 120, .inl (kz_z zs))), (an, .inl (gI G, 120, .inl fv))] s.heap := hP
  have hl := lv_entry ([.ref hc, .ref hk, .int (nI sq)]) (n := 6) (Nat.le_of_ble_eq_true rfl)
  rw [lg_entry_eq]
  generalize (lg_sl ([.ref hc, .ref hk, .int (nI sq)]) ++ List.replicate (6 - (lg_sl ([.ref hc, .ref hk, .int (nI sq)])).length) Slot.unset).toArray = ls at hl ⊢
  have hl : lv_has ls 6 [(0, .ref hc), (1, .ref hk), (2, .int (nI sq))] := hl
  refine lv_iconst (v := 0) hx hb dX0_countOfSize_0 (by decide) ?_
  refine lv_istore_n (lv' := [(3, .int 0), (0, .ref hc), (1, .ref hk), (2, .int (nI sq))]) hx hb dX0_countOfSize_1 rfl hl (by decide) rfl (fun ls hl => ?_)
  refine lv_iconst (v := 0) hx hb dX0_countOfSize_2 (by decide) ?_
  refine lv_istore (lv' := [(4, .int 0), (3, .int 0), (0, .ref hc), (1, .ref hk), (2, .int (nI sq))]) hx hb dX0_countOfSize_3 hl (by decide) rfl (fun ls hl => ?_)
  refine kz_loopm (D := G.1) (cl := vwCl) (A := A) (H0 := s.heap) (nL := 6) (hd := 5) (e9 := nn - 1) (i0 := 0) (LV := fun ii => [(3, .int (nI ((kf_cs fw zs sq ii).1))), (4, .int (nI ii)), (0, .ref hc), (1, .ref hk), (2, .int (nI sq))]) (WV := fun ii => [(hc, .inr (0, [.ref ab])), (ab, .inl (gI G, 8, .inl (kz_z ((kf_cs fw zs sq ii).2)))), (hk, .inr (1, [.ref aw, .ref az, .ref an, .int (nI nn)])), (aw, .inl (gJ G, 120, .inr (.inl fw))), (az, .inl (gI G, 120, .inl (kz_z zs))), (an, .inl (gI G, 120, .inl fv))]) (fun ii H locs ls hii hl hP hD hS ih => ?_) (Nat.zero_le _) (lv_sub hl [1, 0, 2, 3, 4] rfl) hP hD hS
  have hl : lv_has ls 6 [(3, .int (nI ((kf_cs fw zs sq ii).1))), (4, .int (nI ii)), (0, .ref hc), (1, .ref hk), (2, .int (nI sq))] := hl
  have hP : va_P G.1 vwCl [(hc, .inr (0, [.ref ab])), (ab, .inl (gI G, 8, .inl (kz_z ((kf_cs fw zs sq ii).2)))), (hk, .inr (1, [.ref aw, .ref az, .ref an, .int (nI nn)])), (aw, .inl (gJ G, 120, .inr (.inl fw))), (az, .inl (gI G, 120, .inl (kz_z zs))), (an, .inl (gI G, 120, .inl fv))] H := hP
  have hD : va_D A [(hc, .inr (0, [.ref ab])), (ab, .inl (gI G, 8, .inl (kz_z ((kf_cs fw zs sq ii).2)))), (hk, .inr (1, [.ref aw, .ref az, .ref an, .int (nI nn)])), (aw, .inl (gJ G, 120, .inr (.inl fw))), (az, .inl (gI G, 120, .inl (kz_z zs))), (an, .inl (gI G, 120, .inl fv))] := hD
  refine lv_iload hx hb dX0_countOfSize_5 (lv_at hl 1 rfl) ?_
  refine lv_iconst (v := 1) hx hb dX0_countOfSize_7 (by decide) ?_
  refine lv_iadd hx hb dX0_countOfSize_8 ?_
  refine kz_asi (y := nI (ii + 1)) (nI_1 ii) ?_
  refine lv_aload_n hx hb dX0_countOfSize_9 rfl (lv_at hl 3 rfl) ?_
  have hPc := hP.sub (ws' := [(hk, .inr (1, [.ref aw, .ref az, .ref an, .int (nI nn)])), (aw, .inl (gJ G, 120, .inr (.inl fw))), (az, .inl (gI G, 120, .inl (kz_z zs))), (an, .inl (gI G, 120, .inl fv))]) [2, 3, 4, 5] rfl
  refine kz_ci (v := nI nn) (va_runV (As := []) (rest := [.int (nI (ii + 1))]) ⟨hx, hb, hml, hown, hts⟩ (c_X1_count l G hk aw az an nn fw (kz_z zs) fv  ) (cwV 0 hts gX0_countOfSize_X1_count rfl rfl rfl (by decide +kernel) ⟨Nat.le_of_ble_eq_true rfl, Nat.le_of_ble_eq_true rfl⟩) (kz_pv hK hPc (va_recv hK.1 hPc (ci := 1) (q0 := 0) rfl rfl)) rfl rfl hl.1 rfl (lv_room (Nat.le_of_ble_eq_true rfl)) dX0_countOfSize_10 ⟨Nat.zero_le _, Nat.zero_le _⟩).run ?_
  refine lv_icmp_ge (tgt := 62) hx hb dX0_countOfSize_13 (by decide) (fun c_1 => ?_) (fun c_1 => ?_)
  · have kc_1 : nn ≤ ii + 1 := (nI_leI (by omega) (by omega)).mp c_1
    refine lv_iload_n hx hb dX0_countOfSize_62 rfl (lv_at hl 0 rfl) ?_
    refine lv_aload_n hx hb dX0_countOfSize_63 rfl (lv_at hl 2 rfl) ?_
    refine lv_iconst (v := (-1)) hx hb dX0_countOfSize_64 (by decide) ?_
    refine lv_iload_n hx hb dX0_countOfSize_65 rfl (lv_at hl 4 rfl) ?_
    have hPc := hP.sub (ws' := [(hc, .inr (0, [.ref ab])), (ab, .inl (gI G, 8, .inl (kz_z ((kf_cs fw zs sq ii).2))))]) [0, 1] rfl
    have hDc := hD.sub (ws' := [(hc, .inr (0, [.ref ab])), (ab, .inl (gI G, 8, .inl (kz_z ((kf_cs fw zs sq ii).2))))]) [0, 1] (by decide) rfl
    have hFc := va_free (wc := [(hc, .inr (0, [.ref ab])), (ab, .inl (gI G, 8, .inl (kz_z ((kf_cs fw zs sq ii).2))))]) hD hS hA [0, 1] rfl
    refine va_calli (va_runV (As := [.int (-1), .int (nI sq)]) (rest := [.int (nI ((kf_cs fw zs sq ii).1))]) ⟨hx, hb, hml, hown, hts⟩ (c_X0_endLongerThan l G hc ab ((kf_cs fw zs sq ii).2) (-1) 0 sq _ (by decide) (by omega) (by omega) (fun j => by have := kf_cs_le fw zs sq ii j; have := kf_zr_le (kf_cs fw zs sq ii).2 (kf_fk fw zs ii + 1) (max (kf_fk fw zs ii + 1) 8) j; omega)) (cwV 2 hts gX0_countOfSize_X0_endLongerThan rfl rfl rfl (by decide +kernel) ⟨Nat.le_of_ble_eq_true rfl, Nat.le_of_ble_eq_true rfl⟩) (kz_pvm hK hPc hDc (va_recv hK.1 hPc (ci := 0) (q0 := 0) rfl rfl)) rfl rfl hl.1 rfl (lv_room (Nat.le_of_ble_eq_true rfl)) dX0_countOfSize_66 ⟨Nat.zero_le _, Nat.zero_le _⟩) hS (fun q _ h => hFc q h) hFc (fun r_2 u t H locs ht hvm hw hB hqz9 hqk9 hS => ?_)
    obtain ⟨hr9, hw⟩ : r_2 = nI (kf_cnt (kf_ep ((kf_cs fw zs sq ii).2) sq 0) (max 0 8)) ∧ u = [(hc, .inr (0, [.ref ab])), (ab, .inl (gI G, 8, .inl (kz_z (kf_zr ((kf_cs fw zs sq ii).2) 0 (max 0 8)))))] := hw
    have hB : va_P G.1 vwCl u H := by rw [← ht]; exact hB
    rw [hw] at hB
    obtain ⟨hP, hD⟩ := kz_join (wc := [(hc, .inr (0, [.ref ab])), (ab, .inl (gI G, 8, .inl (kz_z ((kf_cs fw zs sq ii).2))))]) (w1 := [(hc, .inr (0, [.ref ab])), (ab, .inl (gI G, 8, .inl (kz_z (kf_zr ((kf_cs fw zs sq ii).2) 0 (max 0 8)))))]) hP hD [0, 1] rfl (by decide) rfl hqk9 hB
    have hP : va_P G.1 vwCl [(hc, .inr (0, [.ref ab])), (ab, .inl (gI G, 8, .inl (kz_z (kf_zr ((kf_cs fw zs sq ii).2) 0 (max 0 8))))), (hk, .inr (1, [.ref aw, .ref az, .ref an, .int (nI nn)])), (aw, .inl (gJ G, 120, .inr (.inl fw))), (az, .inl (gI G, 120, .inl (kz_z zs))), (an, .inl (gI G, 120, .inl fv))] H := hP
    have hD : va_D A [(hc, .inr (0, [.ref ab])), (ab, .inl (gI G, 8, .inl (kz_z (kf_zr ((kf_cs fw zs sq ii).2) 0 (max 0 8))))), (hk, .inr (1, [.ref aw, .ref az, .ref an, .int (nI nn)])), (aw, .inl (gJ G, 120, .inr (.inl fw))), (az, .inl (gI G, 120, .inl (kz_z zs))), (an, .inl (gI G, 120, .inl fv))] := hD
    refine kz_asi (y := nI (kf_cnt (kf_ep ((kf_cs fw zs sq ii).2) sq 0) (max 0 8))) hr9 ?_
    refine lv_iadd hx hb dX0_countOfSize_69 ?_
    exact W.iret (v := (nI ((kf_cs fw zs sq ii).1)) + (nI (kf_cnt (kf_ep ((kf_cs fw zs sq ii).2) sq 0) (max 0 8)))) hx hb hr (fun t ht hW => ⟨⟨_, ([(hc, .inr (0, [.ref ab])), (ab, .inl (gI G, 8, .inl (kz_z (kf_zr ((kf_cs fw zs sq ii).2) 0 (max 0 8))))), (hk, .inr (1, [.ref aw, .ref az, .ref an, .int (nI nn)])), (aw, .inl (gJ G, 120, .inr (.inl fw))), (az, .inl (gI G, 120, .inl (kz_z zs))), (an, .inl (gI G, 120, .inl fv))] : va_W), rfl, ⟨by rw [nI_add, show ii = nn - 1 from by omega]; rfl, by rw [kf_cs_end]⟩, by rw [← ht] at hP; exact hP⟩, hS.F ht⟩) hS.2.2 dX0_countOfSize_70
  · have kc_1 : ii + 1 < nn := Nat.lt_of_not_le (fun h => c_1 (nI_le h (by omega)))
    have hzi := hz ii
    have hf8 := kf_fk_le fw zs ii
    refine lv_aload_n hx hb dX0_countOfSize_16 rfl (lv_at hl 3 rfl) ?_
    refine lv_iload hx hb dX0_countOfSize_17 (lv_at hl 1 rfl) ?_
    have hPc := hP.sub (ws' := [(hk, .inr (1, [.ref aw, .ref az, .ref an, .int (nI nn)])), (aw, .inl (gJ G, 120, .inr (.inl fw))), (az, .inl (gI G, 120, .inl (kz_z zs))), (an, .inl (gI G, 120, .inl fv))]) [2, 3, 4, 5] rfl
    refine kz_ci (v := nI (kf_fk fw zs ii)) (va_runV (As := [.int (nI ii)]) (rest := []) ⟨hx, hb, hml, hown, hts⟩ (c_X1_forkBehind l G hk aw az an nn fw zs fv ii (by omega) hz (by omega)) (cwV 1 hts gX0_countOfSize_X1_forkBehind rfl rfl rfl (by decide +kernel) ⟨Nat.le_of_ble_eq_true rfl, Nat.le_of_ble_eq_true rfl⟩) (kz_pv hK hPc (va_recv hK.1 hPc (ci := 1) (q0 := 0) rfl rfl)) rfl rfl hl.1 rfl (lv_room (Nat.le_of_ble_eq_true rfl)) dX0_countOfSize_19 ⟨Nat.zero_le _, Nat.zero_le _⟩).run ?_
    refine lv_istore (lv' := [(5, .int (nI (kf_fk fw zs ii))), (3, .int (nI ((kf_cs fw zs sq ii).1))), (4, .int (nI ii)), (0, .ref hc), (1, .ref hk), (2, .int (nI sq))]) hx hb dX0_countOfSize_22 hl (by decide) rfl (fun ls hl => ?_)
    refine lv_iload_n hx hb dX0_countOfSize_24 rfl (lv_at hl 1 rfl) ?_
    refine lv_aload_n hx hb dX0_countOfSize_25 rfl (lv_at hl 3 rfl) ?_
    refine lv_iload hx hb dX0_countOfSize_26 (lv_at hl 0 rfl) ?_
    refine lv_iload_n hx hb dX0_countOfSize_28 rfl (lv_at hl 5 rfl) ?_
    have hPc := hP.sub (ws' := [(hc, .inr (0, [.ref ab])), (ab, .inl (gI G, 8, .inl (kz_z ((kf_cs fw zs sq ii).2))))]) [0, 1] rfl
    have hDc := hD.sub (ws' := [(hc, .inr (0, [.ref ab])), (ab, .inl (gI G, 8, .inl (kz_z ((kf_cs fw zs sq ii).2))))]) [0, 1] (by decide) rfl
    have hFc := va_free (wc := [(hc, .inr (0, [.ref ab])), (ab, .inl (gI G, 8, .inl (kz_z ((kf_cs fw zs sq ii).2))))]) hD hS hA [0, 1] rfl
    refine va_calli (va_runV (As := [.int (nI (kf_fk fw zs ii)), .int (nI sq)]) (rest := [.int (nI ((kf_cs fw zs sq ii).1))]) ⟨hx, hb, hml, hown, hts⟩ (c_X0_endLongerThan l G hc ab ((kf_cs fw zs sq ii).2) (nI (kf_fk fw zs ii)) ((kf_fk fw zs ii) + 1) sq _ (nI_1 _) (by omega) (by omega) (fun j => by have := kf_cs_le fw zs sq ii j; have := kf_zr_le (kf_cs fw zs sq ii).2 (kf_fk fw zs ii + 1) (max (kf_fk fw zs ii + 1) 8) j; omega)) (cwV 2 hts gX0_countOfSize_X0_endLongerThan rfl rfl rfl (by decide +kernel) ⟨Nat.le_of_ble_eq_true rfl, Nat.le_of_ble_eq_true rfl⟩) (kz_pvm hK hPc hDc (va_recv hK.1 hPc (ci := 0) (q0 := 0) rfl rfl)) rfl rfl hl.1 rfl (lv_room (Nat.le_of_ble_eq_true rfl)) dX0_countOfSize_29 ⟨Nat.zero_le _, Nat.zero_le _⟩) hS (fun q _ h => hFc q h) hFc (fun r_3 u t H locs ht hvm hw hB hqz9 hqk9 hS => ?_)
    obtain ⟨hr9, hw⟩ : r_3 = nI (kf_cnt (kf_ep ((kf_cs fw zs sq ii).2) sq ((kf_fk fw zs ii) + 1)) (max ((kf_fk fw zs ii) + 1) 8)) ∧ u = [(hc, .inr (0, [.ref ab])), (ab, .inl (gI G, 8, .inl (kz_z (kf_zr ((kf_cs fw zs sq ii).2) ((kf_fk fw zs ii) + 1) (max ((kf_fk fw zs ii) + 1) 8)))))] := hw
    have hB : va_P G.1 vwCl u H := by rw [← ht]; exact hB
    rw [hw] at hB
    obtain ⟨hP, hD⟩ := kz_join (wc := [(hc, .inr (0, [.ref ab])), (ab, .inl (gI G, 8, .inl (kz_z ((kf_cs fw zs sq ii).2))))]) (w1 := [(hc, .inr (0, [.ref ab])), (ab, .inl (gI G, 8, .inl (kz_z (kf_zr ((kf_cs fw zs sq ii).2) ((kf_fk fw zs ii) + 1) (max ((kf_fk fw zs ii) + 1) 8)))))]) hP hD [0, 1] rfl (by decide) rfl hqk9 hB
    have hP : va_P G.1 vwCl [(hc, .inr (0, [.ref ab])), (ab, .inl (gI G, 8, .inl (kz_z (kf_zr ((kf_cs fw zs sq ii).2) ((kf_fk fw zs ii) + 1) (max ((kf_fk fw zs ii) + 1) 8))))), (hk, .inr (1, [.ref aw, .ref az, .ref an, .int (nI nn)])), (aw, .inl (gJ G, 120, .inr (.inl fw))), (az, .inl (gI G, 120, .inl (kz_z zs))), (an, .inl (gI G, 120, .inl fv))] H := hP
    have hD : va_D A [(hc, .inr (0, [.ref ab])), (ab, .inl (gI G, 8, .inl (kz_z (kf_zr ((kf_cs fw zs sq ii).2) ((kf_fk fw zs ii) + 1) (max ((kf_fk fw zs ii) + 1) 8))))), (hk, .inr (1, [.ref aw, .ref az, .ref an, .int (nI nn)])), (aw, .inl (gJ G, 120, .inr (.inl fw))), (az, .inl (gI G, 120, .inl (kz_z zs))), (an, .inl (gI G, 120, .inl fv))] := hD
    refine kz_asi (y := nI (kf_cnt (kf_ep ((kf_cs fw zs sq ii).2) sq ((kf_fk fw zs ii) + 1)) (max ((kf_fk fw zs ii) + 1) 8))) hr9 ?_
    refine lv_iadd hx hb dX0_countOfSize_32 ?_
    refine kz_asi (y := nI ((kf_cs fw zs sq (ii + 1)).1)) (nI_add _ _) ?_
    refine lv_istore_n (lv' := [(3, .int (nI ((kf_cs fw zs sq (ii + 1)).1))), (5, .int (nI (kf_fk fw zs ii))), (4, .int (nI ii)), (0, .ref hc), (1, .ref hk), (2, .int (nI sq))]) hx hb dX0_countOfSize_33 rfl hl (by decide) rfl (fun ls hl => ?_)
    refine lv_aload_n hx hb dX0_countOfSize_34 rfl (lv_at hl 3 rfl) ?_
    refine lv_iload hx hb dX0_countOfSize_35 (lv_at hl 1 rfl) ?_
    refine lv_aload_n hx hb dX0_countOfSize_37 rfl (lv_at hl 4 rfl) ?_
    refine lv_iload hx hb dX0_countOfSize_38 (lv_at hl 2 rfl) ?_
    have hPc := hP.sub (ws' := [(hk, .inr (1, [.ref aw, .ref az, .ref an, .int (nI nn)])), (aw, .inl (gJ G, 120, .inr (.inl fw))), (az, .inl (gI G, 120, .inl (kz_z zs))), (an, .inl (gI G, 120, .inl fv))]) [2, 3, 4, 5] rfl
    refine kz_ci (v := if 0 ≤ nI ii ∧ nI ii < nI nn then (kz_z zs) (nI ii).toNatClampNeg else -1) (va_runV (As := [.int (nI ii)]) (rest := [.int (nI (kf_fk fw zs ii)), .ref hc]) ⟨hx, hb, hml, hown, hts⟩ (c_X1_sizeAt l G hk aw az an nn fw (kz_z zs) fv (nI ii) (by omega)) (cwV 1 hts gX0_countOfSize_X1_sizeAt rfl rfl rfl (by decide +kernel) ⟨Nat.le_of_ble_eq_true rfl, Nat.le_of_ble_eq_true rfl⟩) (kz_pv hK hPc (va_recv hK.1 hPc (ci := 1) (q0 := 0) rfl rfl)) rfl rfl hl.1 rfl (lv_room (Nat.le_of_ble_eq_true rfl)) dX0_countOfSize_40 ⟨Nat.zero_le _, Nat.zero_le _⟩).run ?_
    refine kz_asi (y := nI (zs ii)) (by rw [if_pos ((kf_plN (by omega) (by omega)).mpr (by omega)), nI_clamp (by omega)]; rfl) ?_
    refine lv_iload hx hb dX0_countOfSize_43 (lv_at hl 1 rfl) ?_
    refine lv_icmp_ne (tgt := 52) hx hb dX0_countOfSize_45 (by decide) (fun c_4 => ?_) (fun c_4 => ?_)
    · have hne : ¬ zs ii = kf_fk fw zs ii := fun h => c_4 (by rw [h])
      refine lv_iconst (v := 0) hx hb dX0_countOfSize_52 (by decide) ?_
      have hPc := hP.sub (ws' := [(hc, .inr (0, [.ref ab])), (ab, .inl (gI G, 8, .inl (kz_z (kf_zr ((kf_cs fw zs sq ii).2) ((kf_fk fw zs ii) + 1) (max ((kf_fk fw zs ii) + 1) 8)))))]) [0, 1] rfl
      have hDc := hD.sub (ws' := [(hc, .inr (0, [.ref ab])), (ab, .inl (gI G, 8, .inl (kz_z (kf_zr ((kf_cs fw zs sq ii).2) ((kf_fk fw zs ii) + 1) (max ((kf_fk fw zs ii) + 1) 8)))))]) [0, 1] (by decide) rfl
      have hFc := va_free (wc := [(hc, .inr (0, [.ref ab])), (ab, .inl (gI G, 8, .inl (kz_z (kf_zr ((kf_cs fw zs sq ii).2) ((kf_fk fw zs ii) + 1) (max ((kf_fk fw zs ii) + 1) 8)))))]) hD hS hA [0, 1] rfl
      refine va_callv (va_runV (As := [.int (nI (kf_fk fw zs ii)), .int 0]) (rest := []) ⟨hx, hb, hml, hown, hts⟩ (c_X0_addBranch l G hc ab (kf_zr ((kf_cs fw zs sq ii).2) ((kf_fk fw zs ii) + 1) (max ((kf_fk fw zs ii) + 1) 8)) (kf_fk fw zs ii) 0 _ (by omega) (fun j => by have := kf_cs_le fw zs sq ii j; have := kf_zr_le (kf_cs fw zs sq ii).2 (kf_fk fw zs ii + 1) (max (kf_fk fw zs ii + 1) 8) j; omega)) (cwV 2 hts gX0_countOfSize_X0_addBranch rfl rfl rfl (by decide +kernel) ⟨Nat.le_of_ble_eq_true rfl, Nat.le_of_ble_eq_true rfl⟩) (kz_pvm hK hPc hDc (va_recv hK.1 hPc (ci := 0) (q0 := 0) rfl rfl)) rfl rfl hl.1 rfl (lv_room (Nat.le_of_ble_eq_true rfl)) dX0_countOfSize_53 ⟨Nat.zero_le _, Nat.zero_le _⟩) hS (fun q _ h => hFc q h) hFc (fun u t H locs ht hvm hw hB hqz9 hqk9 hS => ?_)
      have hw : u = [(hc, .inr (0, [.ref ab])), (ab, .inl (gI G, 8, .inl (kz_z (kf_ab (kf_zr ((kf_cs fw zs sq ii).2) ((kf_fk fw zs ii) + 1) (max ((kf_fk fw zs ii) + 1) 8)) (kf_fk fw zs ii) 0))))] := hw
      have hB : va_P G.1 vwCl u H := by rw [← ht]; exact hB
      rw [hw] at hB
      obtain ⟨hP, hD⟩ := kz_join (wc := [(hc, .inr (0, [.ref ab])), (ab, .inl (gI G, 8, .inl (kz_z (kf_zr ((kf_cs fw zs sq ii).2) ((kf_fk fw zs ii) + 1) (max ((kf_fk fw zs ii) + 1) 8)))))]) (w1 := [(hc, .inr (0, [.ref ab])), (ab, .inl (gI G, 8, .inl (kz_z (kf_ab (kf_zr ((kf_cs fw zs sq ii).2) ((kf_fk fw zs ii) + 1) (max ((kf_fk fw zs ii) + 1) 8)) (kf_fk fw zs ii) 0))))]) hP hD [0, 1] rfl (by decide) rfl hqk9 hB
      have hP : va_P G.1 vwCl [(hc, .inr (0, [.ref ab])), (ab, .inl (gI G, 8, .inl (kz_z (kf_ab (kf_zr ((kf_cs fw zs sq ii).2) ((kf_fk fw zs ii) + 1) (max ((kf_fk fw zs ii) + 1) 8)) (kf_fk fw zs ii) 0)))), (hk, .inr (1, [.ref aw, .ref az, .ref an, .int (nI nn)])), (aw, .inl (gJ G, 120, .inr (.inl fw))), (az, .inl (gI G, 120, .inl (kz_z zs))), (an, .inl (gI G, 120, .inl fv))] H := hP
      have hD : va_D A [(hc, .inr (0, [.ref ab])), (ab, .inl (gI G, 8, .inl (kz_z (kf_ab (kf_zr ((kf_cs fw zs sq ii).2) ((kf_fk fw zs ii) + 1) (max ((kf_fk fw zs ii) + 1) 8)) (kf_fk fw zs ii) 0)))), (hk, .inr (1, [.ref aw, .ref az, .ref an, .int (nI nn)])), (aw, .inl (gJ G, 120, .inr (.inl fw))), (az, .inl (gI G, 120, .inl (kz_z zs))), (an, .inl (gI G, 120, .inl fv))] := hD
      refine lv_iinc (v := nI (ii + 1)) (lv' := [(4, .int (nI (ii + 1))), (3, .int (nI ((kf_cs fw zs sq (ii + 1)).1))), (5, .int (nI (kf_fk fw zs ii))), (0, .ref hc), (1, .ref hk), (2, .int (nI sq))]) hx hb dX0_countOfSize_56 hl (k := 2) rfl (nI_1 ii) (by decide) rfl (fun ls hl => ?_)
      refine lv_goto (tgt := 5) hx hb dX0_countOfSize_59 (by decide) ?_
      have e1 : (kf_cs fw zs sq (ii + 1)).2 = kf_ab (kf_zr (kf_cs fw zs sq ii).2 (kf_fk fw zs ii + 1) (max (kf_fk fw zs ii + 1) 8)) (kf_fk fw zs ii) 0 := by
        show kf_ab _ _ (if zs ii = kf_fk fw zs ii then 1 else 0) = _
        rw [if_neg hne]
      exact ih H locs ls (by omega) (lv_sub hl [1, 0, 3, 4, 5] rfl) (by show va_P G.1 vwCl [(hc, .inr (0, [.ref ab])), (ab, .inl (gI G, 8, .inl (kz_z ((kf_cs fw zs sq (ii + 1)).2)))), (hk, .inr (1, [.ref aw, .ref az, .ref an, .int (nI nn)])), (aw, .inl (gJ G, 120, .inr (.inl fw))), (az, .inl (gI G, 120, .inl (kz_z zs))), (an, .inl (gI G, 120, .inl fv))] H; rw [e1]; exact hP) (by show va_D A [(hc, .inr (0, [.ref ab])), (ab, .inl (gI G, 8, .inl (kz_z ((kf_cs fw zs sq (ii + 1)).2)))), (hk, .inr (1, [.ref aw, .ref az, .ref an, .int (nI nn)])), (aw, .inl (gJ G, 120, .inr (.inl fw))), (az, .inl (gI G, 120, .inl (kz_z zs))), (an, .inl (gI G, 120, .inl fv))]; rw [e1]; exact hD) hS
    · have heq : zs ii = kf_fk fw zs ii := (nI_eq (by omega) (by omega)).mp c_4
      refine lv_iconst (v := 1) hx hb dX0_countOfSize_48 (by decide) ?_
      refine lv_goto (tgt := 53) hx hb dX0_countOfSize_49 (by decide) ?_
      have hPc := hP.sub (ws' := [(hc, .inr (0, [.ref ab])), (ab, .inl (gI G, 8, .inl (kz_z (kf_zr ((kf_cs fw zs sq ii).2) ((kf_fk fw zs ii) + 1) (max ((kf_fk fw zs ii) + 1) 8)))))]) [0, 1] rfl
      have hDc := hD.sub (ws' := [(hc, .inr (0, [.ref ab])), (ab, .inl (gI G, 8, .inl (kz_z (kf_zr ((kf_cs fw zs sq ii).2) ((kf_fk fw zs ii) + 1) (max ((kf_fk fw zs ii) + 1) 8)))))]) [0, 1] (by decide) rfl
      have hFc := va_free (wc := [(hc, .inr (0, [.ref ab])), (ab, .inl (gI G, 8, .inl (kz_z (kf_zr ((kf_cs fw zs sq ii).2) ((kf_fk fw zs ii) + 1) (max ((kf_fk fw zs ii) + 1) 8)))))]) hD hS hA [0, 1] rfl
      refine va_callv (va_runV (As := [.int (nI (kf_fk fw zs ii)), .int 1]) (rest := []) ⟨hx, hb, hml, hown, hts⟩ (c_X0_addBranch l G hc ab (kf_zr ((kf_cs fw zs sq ii).2) ((kf_fk fw zs ii) + 1) (max ((kf_fk fw zs ii) + 1) 8)) (kf_fk fw zs ii) 1 _ (by omega) (fun j => by have := kf_cs_le fw zs sq ii j; have := kf_zr_le (kf_cs fw zs sq ii).2 (kf_fk fw zs ii + 1) (max (kf_fk fw zs ii + 1) 8) j; omega)) (cwV 2 hts gX0_countOfSize_X0_addBranch rfl rfl rfl (by decide +kernel) ⟨Nat.le_of_ble_eq_true rfl, Nat.le_of_ble_eq_true rfl⟩) (kz_pvm hK hPc hDc (va_recv hK.1 hPc (ci := 0) (q0 := 0) rfl rfl)) rfl rfl hl.1 rfl (lv_room (Nat.le_of_ble_eq_true rfl)) dX0_countOfSize_53 ⟨Nat.zero_le _, Nat.zero_le _⟩) hS (fun q _ h => hFc q h) hFc (fun u t H locs ht hvm hw hB hqz9 hqk9 hS => ?_)
      have hw : u = [(hc, .inr (0, [.ref ab])), (ab, .inl (gI G, 8, .inl (kz_z (kf_ab (kf_zr ((kf_cs fw zs sq ii).2) ((kf_fk fw zs ii) + 1) (max ((kf_fk fw zs ii) + 1) 8)) (kf_fk fw zs ii) 1))))] := hw
      have hB : va_P G.1 vwCl u H := by rw [← ht]; exact hB
      rw [hw] at hB
      obtain ⟨hP, hD⟩ := kz_join (wc := [(hc, .inr (0, [.ref ab])), (ab, .inl (gI G, 8, .inl (kz_z (kf_zr ((kf_cs fw zs sq ii).2) ((kf_fk fw zs ii) + 1) (max ((kf_fk fw zs ii) + 1) 8)))))]) (w1 := [(hc, .inr (0, [.ref ab])), (ab, .inl (gI G, 8, .inl (kz_z (kf_ab (kf_zr ((kf_cs fw zs sq ii).2) ((kf_fk fw zs ii) + 1) (max ((kf_fk fw zs ii) + 1) 8)) (kf_fk fw zs ii) 1))))]) hP hD [0, 1] rfl (by decide) rfl hqk9 hB
      have hP : va_P G.1 vwCl [(hc, .inr (0, [.ref ab])), (ab, .inl (gI G, 8, .inl (kz_z (kf_ab (kf_zr ((kf_cs fw zs sq ii).2) ((kf_fk fw zs ii) + 1) (max ((kf_fk fw zs ii) + 1) 8)) (kf_fk fw zs ii) 1)))), (hk, .inr (1, [.ref aw, .ref az, .ref an, .int (nI nn)])), (aw, .inl (gJ G, 120, .inr (.inl fw))), (az, .inl (gI G, 120, .inl (kz_z zs))), (an, .inl (gI G, 120, .inl fv))] H := hP
      have hD : va_D A [(hc, .inr (0, [.ref ab])), (ab, .inl (gI G, 8, .inl (kz_z (kf_ab (kf_zr ((kf_cs fw zs sq ii).2) ((kf_fk fw zs ii) + 1) (max ((kf_fk fw zs ii) + 1) 8)) (kf_fk fw zs ii) 1)))), (hk, .inr (1, [.ref aw, .ref az, .ref an, .int (nI nn)])), (aw, .inl (gJ G, 120, .inr (.inl fw))), (az, .inl (gI G, 120, .inl (kz_z zs))), (an, .inl (gI G, 120, .inl fv))] := hD
      refine lv_iinc (v := nI (ii + 1)) (lv' := [(4, .int (nI (ii + 1))), (3, .int (nI ((kf_cs fw zs sq (ii + 1)).1))), (5, .int (nI (kf_fk fw zs ii))), (0, .ref hc), (1, .ref hk), (2, .int (nI sq))]) hx hb dX0_countOfSize_56 hl (k := 2) rfl (nI_1 ii) (by decide) rfl (fun ls hl => ?_)
      refine lv_goto (tgt := 5) hx hb dX0_countOfSize_59 (by decide) ?_
      have e1 : (kf_cs fw zs sq (ii + 1)).2 = kf_ab (kf_zr (kf_cs fw zs sq ii).2 (kf_fk fw zs ii + 1) (max (kf_fk fw zs ii + 1) 8)) (kf_fk fw zs ii) 1 := by
        show kf_ab _ _ (if zs ii = kf_fk fw zs ii then 1 else 0) = _
        rw [if_pos heq]
      exact ih H locs ls (by omega) (lv_sub hl [1, 0, 3, 4, 5] rfl) (by show va_P G.1 vwCl [(hc, .inr (0, [.ref ab])), (ab, .inl (gI G, 8, .inl (kz_z ((kf_cs fw zs sq (ii + 1)).2)))), (hk, .inr (1, [.ref aw, .ref az, .ref an, .int (nI nn)])), (aw, .inl (gJ G, 120, .inr (.inl fw))), (az, .inl (gI G, 120, .inl (kz_z zs))), (an, .inl (gI G, 120, .inl fv))] H; rw [e1]; exact hP) (by show va_D A [(hc, .inr (0, [.ref ab])), (ab, .inl (gI G, 8, .inl (kz_z ((kf_cs fw zs sq (ii + 1)).2)))), (hk, .inr (1, [.ref aw, .ref az, .ref an, .int (nI nn)])), (aw, .inl (gJ G, 120, .inr (.inl fw))), (az, .inl (gI G, 120, .inl (kz_z zs))), (an, .inl (gI G, 120, .inl fv))]; rw [e1]; exact hD) hS
end
section
def kf_b (b : Bool) : Int32 := if b = true then 1 else 0
theorem kf_b_nar (b : Bool) : narrow .boolean (.int (kf_b b)) = .int (kf_b b) := by cases b <;> rfl
theorem kf_b_0 {b : Bool} : kf_b b = 0 ↔ b = false := by cases b <;> decide
/-- a reader's place: 0 before all, k + 1 on the k-th, count + 1 behind all -/
def kf_p (pt : Nat) : Int32 := nI pt - 1
theorem kf_p_s (k : Nat) : kf_p (k + 1) = nI k := nI_pred k
theorem kf_p_1 (pt : Nat) : kf_p pt + 1 = nI pt := by
  unfold kf_p
  cases pt with
  | zero => rfl
  | succ k => rw [nI_pred, nI_1]
theorem kf_p_in {pt nn : Nat} (hp : pt ≤ 100000) (hn : nn ≤ 120) : (0 ≤ kf_p pt ∧ kf_p pt < nI nn) ↔ (0 < pt ∧ pt ≤ nn) := by
  cases pt with
  | zero => exact ⟨fun h => absurd h.1 (by decide), fun h => absurd h.1 (by decide)⟩
  | succ k =>
    rw [kf_p_s, kf_plN (by omega) (by omega)]
    omega
theorem kf_p_cl {pt : Nat} (h0 : 0 < pt) (hp : pt ≤ 100000) : (kf_p pt).toNatClampNeg = pt - 1 := by
  cases pt with
  | zero => omega
  | succ k =>
    rw [kf_p_s, nI_clamp (by omega)]
    rfl
theorem kf_p_if {α : Type} {pt nn : Nat} (hp : pt ≤ 100000) (hn : nn ≤ 120) (f : Nat → α) (d : α) : (if 0 ≤ kf_p pt ∧ kf_p pt < nI nn then f (kf_p pt).toNatClampNeg else d) = if 0 < pt ∧ pt ≤ nn then f (pt - 1) else d := by
  by_cases h : 0 < pt ∧ pt ≤ nn
  · rw [if_pos ((kf_p_in hp hn).mpr h), if_pos h, kf_p_cl h.1 hp]
  · rw [if_neg (fun z => h ((kf_p_in hp hn).mp z)), if_neg h]
theorem kf_p_ib {pt nn : Nat} (hp : pt ≤ 100000) (hn : nn ≤ 120) : (if 0 ≤ kf_p pt ∧ kf_p pt < nI nn then (1 : Int32) else 0) = if 0 < pt ∧ pt ≤ nn then 1 else 0 := by
  by_cases h : 0 < pt ∧ pt ≤ nn
  · rw [if_pos ((kf_p_in hp hn).mpr h), if_pos h]
  · rw [if_neg (fun z => h ((kf_p_in hp hn).mp z)), if_neg h]

set_option maxHeartbeats 4000000 in
set_option maxRecDepth 100000 in
theorem c_X2_isOpen (l : Launch) (G : kz_G) (rd : Nat) (ob : Bool) (pt : Nat) (hk aw az an nn : Nat) (fw : Nat → Int64) (fz fv : Nat → Int32) : Met l yX2_isOpen wsX2_isOpen { frames := 0, cells := 0, slots := 0, locals := 0 } (kz_Pp G [.ref rd] [(rd, .inr (2, [.ref hk, .int (kf_b ob), .int (kf_p pt)])), (hk, .inr (1, [.ref aw, .ref az, .ref an, .int (nI nn)])), (aw, .inl (gJ G, 120, .inr (.inl fw))), (az, .inl (gI G, 120, .inl fz)), (an, .inl (gI G, 120, .inl fv))]) (vp_Si (fun r => r = kf_b ob)) 0 0 (fun _ => False) := by
  refine Met.ofW (cc := cX2_isOpen) (maxL := 1) (ret := (some .boolean)) (by decide) rfl ?_
  intro p e s m args below meth c s₁ B hml hv
  obtain ⟨rfl, hP, hK⟩ := hv
  have hx := B.exec
  have hb := B.bytes
  have hr := B.returns
  have hts := atoms_spec (ws := wsX2_isOpen) B.pre
  have hown : s.vm.findClass RX2 = some m.cls := findClass_of_methodNamed B.named
  have hlocks := B.notSynchronized
  have hinX2 : ∀ w ∈ wsX20, w ∈ wsX2_isOpen := by decide +kernel
  have hP : va_P G.1 vwCl [(rd, .inr (2, [.ref hk, .int (kf_b ob), .int (kf_p pt)])), (hk, .inr (1, [.ref aw, .ref az, .ref an, .int (nI nn)])), (aw, .inl (gJ G, 120, .inr (.inl fw))), (az, .inl (gI G, 120, .inl fz)), (an, .inl (gI G, 120, .inl fv))] s.heap := hP
  have hl := lv_entry ([.ref rd]) (n := 1) (Nat.le_of_ble_eq_true rfl)
  rw [lg_entry_eq]
  generalize (lg_sl ([.ref rd]) ++ List.replicate (1 - (lg_sl ([.ref rd])).length) Slot.unset).toArray = ls at hl ⊢
  have hl : lv_has ls 1 [(0, .ref rd)] := hl
  refine lv_aload_n hx hb dX2_isOpen_0 rfl (lv_at hl 0 rfl) ?_
  refine va_get (D := G.1) (ci := 2) (v := .int (kf_b ob)) (C := RX2) (T := TX2) (N := 3) hx hb hts hinX2 hown hK.1 hP 0 rfl rfl 1 (by decide) (hts (.fieldLink RX2 18 "ForkStore$Reader" "isOpen" "Z") (by decide +kernel)) (fun _ h9 => h9) rfl dX2_isOpen_1 ?_
  exact W.zret (v := kf_b ob) hx hb hr (by cases ob <;> rfl) (fun t ht hW => ⟨_, rfl, rfl, ht⟩) (fun _ h => nomatch h) dX2_isOpen_4

set_option maxHeartbeats 4000000 in
set_option maxRecDepth 100000 in
theorem c_X2_bytesHere (l : Launch) (G : kz_G) (rd : Nat) (ob : Bool) (pt : Nat) (hk aw az an nn : Nat) (fw : Nat → Int64) (fz fv : Nat → Int32) (hpt : pt ≤ 100000) (hn : nn ≤ 120) : Met l yX2_bytesHere wsX2_bytesHere { frames := 2, cells := 0, slots := 0, locals := 42 } (kz_Pp G [.ref rd] [(rd, .inr (2, [.ref hk, .int (kf_b ob), .int (kf_p pt)])), (hk, .inr (1, [.ref aw, .ref az, .ref an, .int (nI nn)])), (aw, .inl (gJ G, 120, .inr (.inl fw))), (az, .inl (gI G, 120, .inl fz)), (an, .inl (gI G, 120, .inl fv))]) (vp_Sl (fun r => r = if 0 < pt ∧ pt ≤ nn then fw (pt - 1) else 0)) 0 0 (fun _ => False) := by
  refine Met.ofW (cc := cX2_bytesHere) (maxL := 1) (ret := (some .long)) (by decide) rfl ?_
  intro p e s m args below meth c s₁ B hml hv
  obtain ⟨rfl, hP, hK⟩ := hv
  have hx := B.exec
  have hb := B.bytes
  have hr := B.returns
  have hts := atoms_spec (ws := wsX2_bytesHere) B.pre
  have hown : s.vm.findClass RX2 = some m.cls := findClass_of_methodNamed B.named
  have hlocks := B.notSynchronized
  have hinX2 : ∀ w ∈ wsX20, w ∈ wsX2_bytesHere := by decide +kernel
  have hP : va_P G.1 vwCl [(rd, .inr (2, [.ref hk, .int (kf_b ob), .int (kf_p pt)])), (hk, .inr (1, [.ref aw, .ref az, .ref an, .int (nI nn)])), (aw, .inl (gJ G, 120, .inr (.inl fw))), (az, .inl (gI G, 120, .inl fz)), (an, .inl (gI G, 120, .inl fv))] s.heap := hP
  have hl := lv_entry ([.ref rd]) (n := 1) (Nat.le_of_ble_eq_true rfl)
  rw [lg_entry_eq]
  generalize (lg_sl ([.ref rd]) ++ List.replicate (1 - (lg_sl ([.ref rd])).length) Slot.unset).toArray = ls at hl ⊢
  have hl : lv_has ls 1 [(0, .ref rd)] := hl
  refine lv_aload_n hx hb dX2_bytesHere_0 rfl (lv_at hl 0 rfl) ?_
  refine va_get (D := G.1) (ci := 2) (v := .ref hk) (C := RX2) (T := TX2) (N := 3) hx hb hts hinX2 hown hK.1 hP 0 rfl rfl 0 (by decide) (hts (.fieldLink RX2 12 "ForkStore$Reader" "seen" "LForkStore$Keys;") (by decide +kernel)) (fun _ h9 => h9) rfl dX2_bytesHere_1 ?_
  refine lv_aload_n hx hb dX2_bytesHere_4 rfl (lv_at hl 0 rfl) ?_
  refine va_get (D := G.1) (ci := 2) (v := .int (kf_p pt)) (C := RX2) (T := TX2) (N := 3) hx hb hts hinX2 hown hK.1 hP 0 rfl rfl 2 (by decide) (hts (.fieldLink RX2 22 "ForkStore$Reader" "place" "I") (by decide +kernel)) (fun _ h9 => h9) rfl dX2_bytesHere_5 ?_
  have hPc := hP.sub (ws' := [(hk, .inr (1, [.ref aw, .ref az, .ref an, .int (nI nn)])), (aw, .inl (gJ G, 120, .inr (.inl fw))), (az, .inl (gI G, 120, .inl fz)), (an, .inl (gI G, 120, .inl fv))]) [1, 2, 3, 4] rfl
  refine kz_cl (v := if 0 ≤ kf_p pt ∧ kf_p pt < nI nn then fw (kf_p pt).toNatClampNeg else 0) (va_runV (As := [.int (kf_p pt)]) (rest := []) ⟨hx, hb, hml, hown, hts⟩ (c_X1_wordAt l G hk aw az an nn fw fz fv (kf_p pt) (by omega)) (cwV 1 hts gX2_bytesHere_X1_wordAt rfl rfl rfl (by decide +kernel) ⟨Nat.le_of_ble_eq_true rfl, Nat.le_of_ble_eq_true rfl⟩) (kz_pv hK hPc (va_recv hK.1 hPc (ci := 1) (q0 := 0) rfl rfl)) rfl rfl hl.1 rfl (lv_room (Nat.le_of_ble_eq_true rfl)) dX2_bytesHere_8 ⟨Nat.zero_le _, Nat.zero_le _⟩).run ?_
  exact W.lret (v := if 0 ≤ kf_p pt ∧ kf_p pt < nI nn then fw (kf_p pt).toNatClampNeg else 0) hx hb hr (fun t ht hW => ⟨_, rfl, kf_p_if hpt hn _ _, ht⟩) (fun _ h => nomatch h) dX2_bytesHere_11

set_option maxHeartbeats 4000000 in
set_option maxRecDepth 100000 in
theorem c_X2_sizeHere (l : Launch) (G : kz_G) (rd : Nat) (ob : Bool) (pt : Nat) (hk aw az an nn : Nat) (fw : Nat → Int64) (fz fv : Nat → Int32) (hpt : pt ≤ 100000) (hn : nn ≤ 120) : Met l yX2_sizeHere wsX2_sizeHere { frames := 2, cells := 0, slots := 0, locals := 42 } (kz_Pp G [.ref rd] [(rd, .inr (2, [.ref hk, .int (kf_b ob), .int (kf_p pt)])), (hk, .inr (1, [.ref aw, .ref az, .ref an, .int (nI nn)])), (aw, .inl (gJ G, 120, .inr (.inl fw))), (az, .inl (gI G, 120, .inl fz)), (an, .inl (gI G, 120, .inl fv))]) (vp_Si (fun r => r = if 0 < pt ∧ pt ≤ nn then fz (pt - 1) else -1)) 0 0 (fun _ => False) := by
  refine Met.ofW (cc := cX2_sizeHere) (maxL := 1) (ret := (some .int)) (by decide) rfl ?_
  intro p e s m args below meth c s₁ B hml hv
  obtain ⟨rfl, hP, hK⟩ := hv
  have hx := B.exec
  have hb := B.bytes
  have hr := B.returns
  have hts := atoms_spec (ws := wsX2_sizeHere) B.pre
  have hown : s.vm.findClass RX2 = some m.cls := findClass_of_methodNamed B.named
  have hlocks := B.notSynchronized
  have hinX2 : ∀ w ∈ wsX20, w ∈ wsX2_sizeHere := by decide +kernel
  have hP : va_P G.1 vwCl [(rd, .inr (2, [.ref hk, .int (kf_b ob), .int (kf_p pt)])), (hk, .inr (1, [.ref aw, .ref az, .ref an, .int (nI nn)])), (aw, .inl (gJ G, 120, .inr (.inl fw))), (az, .inl (gI G, 120, .inl fz)), (an, .inl (gI G, 120, .inl fv))] s.heap := hP
  have hl := lv_entry ([.ref rd]) (n := 1) (Nat.le_of_ble_eq_true rfl)
  rw [lg_entry_eq]
  generalize (lg_sl ([.ref rd]) ++ List.replicate (1 - (lg_sl ([.ref rd])).length) Slot.unset).toArray = ls at hl ⊢
  have hl : lv_has ls 1 [(0, .ref rd)] := hl
  refine lv_aload_n hx hb dX2_sizeHere_0 rfl (lv_at hl 0 rfl) ?_
  refine va_get (D := G.1) (ci := 2) (v := .ref hk) (C := RX2) (T := TX2) (N := 3) hx hb hts hinX2 hown hK.1 hP 0 rfl rfl 0 (by decide) (hts (.fieldLink RX2 12 "ForkStore$Reader" "seen" "LForkStore$Keys;") (by decide +kernel)) (fun _ h9 => h9) rfl dX2_sizeHere_1 ?_
  refine lv_aload_n hx hb dX2_sizeHere_4 rfl (lv_at hl 0 rfl) ?_
  refine va_get (D := G.1) (ci := 2) (v := .int (kf_p pt)) (C := RX2) (T := TX2) (N := 3) hx hb hts hinX2 hown hK.1 hP 0 rfl rfl 2 (by decide) (hts (.fieldLink RX2 22 "ForkStore$Reader" "place" "I") (by decide +kernel)) (fun _ h9 => h9) rfl dX2_sizeHere_5 ?_
  have hPc := hP.sub (ws' := [(hk, .inr (1, [.ref aw, .ref az, .ref an, .int (nI nn)])), (aw, .inl (gJ G, 120, .inr (.inl fw))), (az, .inl (gI G, 120, .inl fz)), (an, .inl (gI G, 120, .inl fv))]) [1, 2, 3, 4] rfl
  refine kz_ci (v := if 0 ≤ kf_p pt ∧ kf_p pt < nI nn then fz (kf_p pt).toNatClampNeg else -1) (va_runV (As := [.int (kf_p pt)]) (rest := []) ⟨hx, hb, hml, hown, hts⟩ (c_X1_sizeAt l G hk aw az an nn fw fz fv (kf_p pt) (by omega)) (cwV 1 hts gX2_sizeHere_X1_sizeAt rfl rfl rfl (by decide +kernel) ⟨Nat.le_of_ble_eq_true rfl, Nat.le_of_ble_eq_true rfl⟩) (kz_pv hK hPc (va_recv hK.1 hPc (ci := 1) (q0 := 0) rfl rfl)) rfl rfl hl.1 rfl (lv_room (Nat.le_of_ble_eq_true rfl)) dX2_sizeHere_8 ⟨Nat.zero_le _, Nat.zero_le _⟩).run ?_
  exact W.iret (v := if 0 ≤ kf_p pt ∧ kf_p pt < nI nn then fz (kf_p pt).toNatClampNeg else -1) hx hb hr (fun t ht hW => ⟨_, rfl, kf_p_if hpt hn _ _, ht⟩) (fun _ h => nomatch h) dX2_sizeHere_11

set_option maxHeartbeats 4000000 in
set_option maxRecDepth 100000 in
theorem c_X2_numberHere (l : Launch) (G : kz_G) (rd : Nat) (ob : Bool) (pt : Nat) (hk aw az an nn : Nat) (fw : Nat → Int64) (fz fv : Nat → Int32) (hpt : pt ≤ 100000) (hn : nn ≤ 120) : Met l yX2_numberHere wsX2_numberHere { frames := 2, cells := 0, slots := 0, locals := 42 } (kz_Pp G [.ref rd] [(rd, .inr (2, [.ref hk, .int (kf_b ob), .int (kf_p pt)])), (hk, .inr (1, [.ref aw, .ref az, .ref an, .int (nI nn)])), (aw, .inl (gJ G, 120, .inr (.inl fw))), (az, .inl (gI G, 120, .inl fz)), (an, .inl (gI G, 120, .inl fv))]) (vp_Si (fun r => r = if 0 < pt ∧ pt ≤ nn then fv (pt - 1) else 0)) 0 0 (fun _ => False) := by
  refine Met.ofW (cc := cX2_numberHere) (maxL := 1) (ret := (some .int)) (by decide) rfl ?_
  intro p e s m args below meth c s₁ B hml hv
  obtain ⟨rfl, hP, hK⟩ := hv
  have hx := B.exec
  have hb := B.bytes
  have hr := B.returns
  have hts := atoms_spec (ws := wsX2_numberHere) B.pre
  have hown : s.vm.findClass RX2 = some m.cls := findClass_of_methodNamed B.named
  have hlocks := B.notSynchronized
  have hinX2 : ∀ w ∈ wsX20, w ∈ wsX2_numberHere := by decide +kernel
  have hP : va_P G.1 vwCl [(rd, .inr (2, [.ref hk, .int (kf_b ob), .int (kf_p pt)])), (hk, .inr (1, [.ref aw, .ref az, .ref an, .int (nI nn)])), (aw, .inl (gJ G, 120, .inr (.inl fw))), (az, .inl (gI G, 120, .inl fz)), (an, .inl (gI G, 120, .inl fv))] s.heap := hP
  have hl := lv_entry ([.ref rd]) (n := 1) (Nat.le_of_ble_eq_true rfl)
  rw [lg_entry_eq]
  generalize (lg_sl ([.ref rd]) ++ List.replicate (1 - (lg_sl ([.ref rd])).length) Slot.unset).toArray = ls at hl ⊢
  have hl : lv_has ls 1 [(0, .ref rd)] := hl
  refine lv_aload_n hx hb dX2_numberHere_0 rfl (lv_at hl 0 rfl) ?_
  refine va_get (D := G.1) (ci := 2) (v := .ref hk) (C := RX2) (T := TX2) (N := 3) hx hb hts hinX2 hown hK.1 hP 0 rfl rfl 0 (by decide) (hts (.fieldLink RX2 12 "ForkStore$Reader" "seen" "LForkStore$Keys;") (by decide +kernel)) (fun _ h9 => h9) rfl dX2_numberHere_1 ?_
  refine lv_aload_n hx hb dX2_numberHere_4 rfl (lv_at hl 0 rfl) ?_
  refine va_get (D := G.1) (ci := 2) (v := .int (kf_p pt)) (C := RX2) (T := TX2) (N := 3) hx hb hts hinX2 hown hK.1 hP 0 rfl rfl 2 (by decide) (hts (.fieldLink RX2 22 "ForkStore$Reader" "place" "I") (by decide +kernel)) (fun _ h9 => h9) rfl dX2_numberHere_5 ?_
  have hPc := hP.sub (ws' := [(hk, .inr (1, [.ref aw, .ref az, .ref an, .int (nI nn)])), (aw, .inl (gJ G, 120, .inr (.inl fw))), (az, .inl (gI G, 120, .inl fz)), (an, .inl (gI G, 120, .inl fv))]) [1, 2, 3, 4] rfl
  refine kz_ci (v := if 0 ≤ kf_p pt ∧ kf_p pt < nI nn then fv (kf_p pt).toNatClampNeg else 0) (va_runV (As := [.int (kf_p pt)]) (rest := []) ⟨hx, hb, hml, hown, hts⟩ (c_X1_numberAt l G hk aw az an nn fw fz fv (kf_p pt) (by omega)) (cwV 1 hts gX2_numberHere_X1_numberAt rfl rfl rfl (by decide +kernel) ⟨Nat.le_of_ble_eq_true rfl, Nat.le_of_ble_eq_true rfl⟩) (kz_pv hK hPc (va_recv hK.1 hPc (ci := 1) (q0 := 0) rfl rfl)) rfl rfl hl.1 rfl (lv_room (Nat.le_of_ble_eq_true rfl)) dX2_numberHere_8 ⟨Nat.zero_le _, Nat.zero_le _⟩).run ?_
  exact W.iret (v := if 0 ≤ kf_p pt ∧ kf_p pt < nI nn then fv (kf_p pt).toNatClampNeg else 0) hx hb hr (fun t ht hW => ⟨_, rfl, kf_p_if hpt hn _ _, ht⟩) (fun _ h => nomatch h) dX2_numberHere_11

set_option maxHeartbeats 4000000 in
set_option maxRecDepth 100000 in
theorem c_X2_begin (l : Launch) (G : kz_G) (rd : Nat) (ob : Bool) (pt : Nat) (hk aw az an nn : Nat) (fw : Nat → Int64) (fz fv : Nat → Int32) (ohk oaw oaz oan onn : Nat) (ofw : Nat → Int64) (ofz ofv : Nat → Int32) (sz : Nat) (hn : onn ≤ 120) : Met l yX2_begin wsX2_begin { frames := 1, cells := 0, slots := 0, locals := 22 } (kz_Pm G [.ref rd, .ref ohk] [(rd, .inr (2, [.ref hk, .int (kf_b ob), .int (kf_p pt)])), (hk, .inr (1, [.ref aw, .ref az, .ref an, .int (nI nn)])), (aw, .inl (gJ G, 120, .inr (.inl fw))), (az, .inl (gI G, 120, .inl fz)), (an, .inl (gI G, 120, .inl fv)), (ohk, .inr (1, [.ref oaw, .ref oaz, .ref oan, .int (nI onn)])), (oaw, .inl (gJ G, 120, .inr (.inl ofw))), (oaz, .inl (gI G, 120, .inl ofz)), (oan, .inl (gI G, 120, .inl ofv))] sz) (kz_Qv G (fun w => w = [(rd, .inr (2, [.ref hk, .int (kf_b true), .int (kf_p 0)])), (hk, .inr (1, [.ref aw, .ref az, .ref an, .int (nI onn)])), (aw, .inl (gJ G, 120, .inr (.inl (kf_cp ofw fw onn)))), (az, .inl (gI G, 120, .inl (kf_cp ofz fz onn))), (an, .inl (gI G, 120, .inl (kf_cp ofv fv onn))), (ohk, .inr (1, [.ref oaw, .ref oaz, .ref oan, .int (nI onn)])), (oaw, .inl (gJ G, 120, .inr (.inl ofw))), (oaz, .inl (gI G, 120, .inl ofz)), (oan, .inl (gI G, 120, .inl ofv))]) (va_A [(rd, .inr (2, [.ref hk, .int (kf_b ob), .int (kf_p pt)])), (hk, .inr (1, [.ref aw, .ref az, .ref an, .int (nI nn)])), (aw, .inl (gJ G, 120, .inr (.inl fw))), (az, .inl (gI G, 120, .inl fz)), (an, .inl (gI G, 120, .inl fv)), (ohk, .inr (1, [.ref oaw, .ref oaz, .ref oan, .int (nI onn)])), (oaw, .inl (gJ G, 120, .inr (.inl ofw))), (oaz, .inl (gI G, 120, .inl ofz)), (oan, .inl (gI G, 120, .inl ofv))] sz)) 0 0 (va_A [(rd, .inr (2, [.ref hk, .int (kf_b ob), .int (kf_p pt)])), (hk, .inr (1, [.ref aw, .ref az, .ref an, .int (nI nn)])), (aw, .inl (gJ G, 120, .inr (.inl fw))), (az, .inl (gI G, 120, .inl fz)), (an, .inl (gI G, 120, .inl fv)), (ohk, .inr (1, [.ref oaw, .ref oaz, .ref oan, .int (nI onn)])), (oaw, .inl (gJ G, 120, .inr (.inl ofw))), (oaz, .inl (gI G, 120, .inl ofz)), (oan, .inl (gI G, 120, .inl ofv))] sz) := by
  refine Met.ofW (cc := cX2_begin) (maxL := 2) (ret := none) (by decide) rfl ?_
  intro p e s m args below meth c s₁ B hml hv
  obtain ⟨rfl, hsz, hP, hK, hD0⟩ := hv
  have hx := B.exec
  have hb := B.bytes
  have hr := B.returns
  have hts := atoms_spec (ws := wsX2_begin) B.pre
  have hown : s.vm.findClass RX2 = some m.cls := findClass_of_methodNamed B.named
  have hlocks := B.notSynchronized
  have hinX2 : ∀ w ∈ wsX20, w ∈ wsX2_begin := by decide +kernel
  subst hsz
  have hD := hD0.self (sz := s.heap.size)
  generalize hAe : va_A [(rd, .inr (2, [.ref hk, .int (kf_b ob), .int (kf_p pt)])), (hk, .inr (1, [.ref aw, .ref az, .ref an, .int (nI nn)])), (aw, .inl (gJ G, 120, .inr (.inl fw))), (az, .inl (gI G, 120, .inl fz)), (an, .inl (gI G, 120, .inl fv)), (ohk, .inr (1, [.ref oaw, .ref oaz, .ref oan, .int (nI onn)])), (oaw, .inl (gJ G, 120, .inr (.inl ofw))), (oaz, .inl (gI G, 120, .inl ofz)), (oan, .inl (gI G, 120, .inl ofv))] s.heap.size = A at hD ⊢
  have hA : ∀ q : Nat, s.heap.size ≤ q → A q := fun q h => by rw [← hAe]; exact Or.inr h
  have hS : va_S A s.heap s.heap [] := va_S.rf
  have hP : va_P G.1 vwCl [(rd, .inr (2, [.ref hk, .int (kf_b ob), .int (kf_p pt)])), (hk, .inr (1, [.ref aw, .ref az, .ref an, .int (nI nn)])), (aw, .inl (gJ G, 120, .inr (.inl fw))), (az, .inl (gI G, 120, .inl fz)), (an, .inl (gI G, 120, .inl fv)), (ohk, .inr (1, [.ref oaw, .ref oaz, .ref oan, .int (nI onn)])), (oaw, .inl (gJ G, 120, .inr (.inl ofw))), (oaz, .inl (gI G, 120, .inl ofz)), (oan, .inl (gI G, 120, .inl ofv))] s.heap := hP
  have hl := lv_entry ([.ref rd, .ref ohk]) (n := 2) (Nat.le_of_ble_eq_true rfl)
  rw [lg_entry_eq]
  generalize (lg_sl ([.ref rd, .ref ohk]) ++ List.replicate (2 - (lg_sl ([.ref rd, .ref ohk])).length) Slot.unset).toArray = ls at hl ⊢
  have hl : lv_has ls 2 [(0, .ref rd), (1, .ref ohk)] := hl
  refine lv_aload_n hx hb dX2_begin_0 rfl (lv_at hl 0 rfl) ?_
  refine va_get (D := G.1) (ci := 2) (v := .ref hk) (C := RX2) (T := TX2) (N := 3) hx hb hts hinX2 hown hK.1 hP 0 rfl rfl 0 (by decide) (hts (.fieldLink RX2 12 "ForkStore$Reader" "seen" "LForkStore$Keys;") (by decide +kernel)) (fun _ h9 => h9) rfl dX2_begin_1 ?_
  refine lv_aload_n hx hb dX2_begin_4 rfl (lv_at hl 1 rfl) ?_
  have hPc := hP.sub (ws' := [(hk, .inr (1, [.ref aw, .ref az, .ref an, .int (nI nn)])), (aw, .inl (gJ G, 120, .inr (.inl fw))), (az, .inl (gI G, 120, .inl fz)), (an, .inl (gI G, 120, .inl fv)), (ohk, .inr (1, [.ref oaw, .ref oaz, .ref oan, .int (nI onn)])), (oaw, .inl (gJ G, 120, .inr (.inl ofw))), (oaz, .inl (gI G, 120, .inl ofz)), (oan, .inl (gI G, 120, .inl ofv))]) [1, 2, 3, 4, 5, 6, 7, 8] rfl
  have hDc := hD.sub (ws' := [(hk, .inr (1, [.ref aw, .ref az, .ref an, .int (nI nn)])), (aw, .inl (gJ G, 120, .inr (.inl fw))), (az, .inl (gI G, 120, .inl fz)), (an, .inl (gI G, 120, .inl fv)), (ohk, .inr (1, [.ref oaw, .ref oaz, .ref oan, .int (nI onn)])), (oaw, .inl (gJ G, 120, .inr (.inl ofw))), (oaz, .inl (gI G, 120, .inl ofz)), (oan, .inl (gI G, 120, .inl ofv))]) [1, 2, 3, 4, 5, 6, 7, 8] (by decide) rfl
  have hFc := va_free (wc := [(hk, .inr (1, [.ref aw, .ref az, .ref an, .int (nI nn)])), (aw, .inl (gJ G, 120, .inr (.inl fw))), (az, .inl (gI G, 120, .inl fz)), (an, .inl (gI G, 120, .inl fv)), (ohk, .inr (1, [.ref oaw, .ref oaz, .ref oan, .int (nI onn)])), (oaw, .inl (gJ G, 120, .inr (.inl ofw))), (oaz, .inl (gI G, 120, .inl ofz)), (oan, .inl (gI G, 120, .inl ofv))]) hD hS hA [1, 2, 3, 4, 5, 6, 7, 8] rfl
  refine va_callv (va_runV (As := [.ref ohk]) (rest := []) ⟨hx, hb, hml, hown, hts⟩ (c_X1_copyFrom l G hk aw az an nn fw fz fv ohk oaw oaz oan onn ofw ofz ofv _ (by omega)) (cwV 1 hts gX2_begin_X1_copyFrom rfl rfl rfl (by decide +kernel) ⟨Nat.le_of_ble_eq_true rfl, Nat.le_of_ble_eq_true rfl⟩) (kz_pvm hK hPc hDc (va_recv hK.1 hPc (ci := 1) (q0 := 0) rfl rfl)) rfl rfl hl.1 rfl (lv_room (Nat.le_of_ble_eq_true rfl)) dX2_begin_5 ⟨Nat.zero_le _, Nat.zero_le _⟩) hS (fun q _ h => hFc q h) hFc (fun u t H locs ht hvm hw hB hqz9 hqk9 hS => ?_)
  have hw : u = [(hk, .inr (1, [.ref aw, .ref az, .ref an, .int (nI onn)])), (aw, .inl (gJ G, 120, .inr (.inl (kf_cp ofw fw onn)))), (az, .inl (gI G, 120, .inl (kf_cp ofz fz onn))), (an, .inl (gI G, 120, .inl (kf_cp ofv fv onn))), (ohk, .inr (1, [.ref oaw, .ref oaz, .ref oan, .int (nI onn)])), (oaw, .inl (gJ G, 120, .inr (.inl ofw))), (oaz, .inl (gI G, 120, .inl ofz)), (oan, .inl (gI G, 120, .inl ofv))] := hw
  have hB : va_P G.1 vwCl u H := by rw [← ht]; exact hB
  rw [hw] at hB
  obtain ⟨hP, hD⟩ := kz_join (wc := [(hk, .inr (1, [.ref aw, .ref az, .ref an, .int (nI nn)])), (aw, .inl (gJ G, 120, .inr (.inl fw))), (az, .inl (gI G, 120, .inl fz)), (an, .inl (gI G, 120, .inl fv)), (ohk, .inr (1, [.ref oaw, .ref oaz, .ref oan, .int (nI onn)])), (oaw, .inl (gJ G, 120, .inr (.inl ofw))), (oaz, .inl (gI G, 120, .inl ofz)), (oan, .inl (gI G, 120, .inl ofv))]) (w1 := [(hk, .inr (1, [.ref aw, .ref az, .ref an, .int (nI onn)])), (aw, .inl (gJ G, 120, .inr (.inl (kf_cp ofw fw onn)))), (az, .inl (gI G, 120, .inl (kf_cp ofz fz onn))), (an, .inl (gI G, 120, .inl (kf_cp ofv fv onn))), (ohk, .inr (1, [.ref oaw, .ref oaz, .ref oan, .int (nI onn)])), (oaw, .inl (gJ G, 120, .inr (.inl ofw))), (oaz, .inl (gI G, 120, .inl ofz)), (oan, .inl (gI G, 120, .inl ofv))]) hP hD [1, 2, 3, 4, 5, 6, 7, 8] rfl (by decide) rfl hqk9 hB
  have hP : va_P G.1 vwCl [(rd, .inr (2, [.ref hk, .int (kf_b ob), .int (kf_p pt)])), (hk, .inr (1, [.ref aw, .ref az, .ref an, .int (nI onn)])), (aw, .inl (gJ G, 120, .inr (.inl (kf_cp ofw fw onn)))), (az, .inl (gI G, 120, .inl (kf_cp ofz fz onn))), (an, .inl (gI G, 120, .inl (kf_cp ofv fv onn))), (ohk, .inr (1, [.ref oaw, .ref oaz, .ref oan, .int (nI onn)])), (oaw, .inl (gJ G, 120, .inr (.inl ofw))), (oaz, .inl (gI G, 120, .inl ofz)), (oan, .inl (gI G, 120, .inl ofv))] H := hP
  have hD : va_D A [(rd, .inr (2, [.ref hk, .int (kf_b ob), .int (kf_p pt)])), (hk, .inr (1, [.ref aw, .ref az, .ref an, .int (nI onn)])), (aw, .inl (gJ G, 120, .inr (.inl (kf_cp ofw fw onn)))), (az, .inl (gI G, 120, .inl (kf_cp ofz fz onn))), (an, .inl (gI G, 120, .inl (kf_cp ofv fv onn))), (ohk, .inr (1, [.ref oaw, .ref oaz, .ref oan, .int (nI onn)])), (oaw, .inl (gJ G, 120, .inr (.inl ofw))), (oaz, .inl (gI G, 120, .inl ofz)), (oan, .inl (gI G, 120, .inl ofv))] := hD
  refine lv_aload_n hx hb dX2_begin_8 rfl (lv_at hl 0 rfl) ?_
  refine lv_iconst (v := (-1)) hx hb dX2_begin_9 (by decide) ?_
  refine va_put (D := G.1) (ci := 2) (v := .int (-1)) (ty := .int) (C := RX2) (T := TX2) (N := 3) hx hb hts hinX2 tyX2 tyX2_ok nmX2 hown hK.1 hP hD hS 0 rfl rfl 2 (by decide) (hts (.fieldLink RX2 22 "ForkStore$Reader" "place" "I") (by decide +kernel)) (fun _ h9 => h9) rfl (by decide +kernel) rfl rfl (Nat.le_of_ble_eq_true rfl) dX2_begin_10 (fun H locs hP hD hS => ?_)
  have hP : va_P G.1 vwCl [(rd, .inr (2, [.ref hk, .int (kf_b ob), .int (-1)])), (hk, .inr (1, [.ref aw, .ref az, .ref an, .int (nI onn)])), (aw, .inl (gJ G, 120, .inr (.inl (kf_cp ofw fw onn)))), (az, .inl (gI G, 120, .inl (kf_cp ofz fz onn))), (an, .inl (gI G, 120, .inl (kf_cp ofv fv onn))), (ohk, .inr (1, [.ref oaw, .ref oaz, .ref oan, .int (nI onn)])), (oaw, .inl (gJ G, 120, .inr (.inl ofw))), (oaz, .inl (gI G, 120, .inl ofz)), (oan, .inl (gI G, 120, .inl ofv))] H := hP
  have hD : va_D A [(rd, .inr (2, [.ref hk, .int (kf_b ob), .int (-1)])), (hk, .inr (1, [.ref aw, .ref az, .ref an, .int (nI onn)])), (aw, .inl (gJ G, 120, .inr (.inl (kf_cp ofw fw onn)))), (az, .inl (gI G, 120, .inl (kf_cp ofz fz onn))), (an, .inl (gI G, 120, .inl (kf_cp ofv fv onn))), (ohk, .inr (1, [.ref oaw, .ref oaz, .ref oan, .int (nI onn)])), (oaw, .inl (gJ G, 120, .inr (.inl ofw))), (oaz, .inl (gI G, 120, .inl ofz)), (oan, .inl (gI G, 120, .inl ofv))] := hD
  refine lv_aload_n hx hb dX2_begin_13 rfl (lv_at hl 0 rfl) ?_
  refine lv_iconst (v := 1) hx hb dX2_begin_14 (by decide) ?_
  refine va_put (D := G.1) (ci := 2) (v := .int 1) (ty := .boolean) (C := RX2) (T := TX2) (N := 3) hx hb hts hinX2 tyX2 tyX2_ok nmX2 hown hK.1 hP hD hS 0 rfl rfl 1 (by decide) (hts (.fieldLink RX2 18 "ForkStore$Reader" "isOpen" "Z") (by decide +kernel)) (fun _ h9 => h9) rfl (by decide +kernel) rfl rfl (Nat.le_of_ble_eq_true rfl) dX2_begin_15 (fun H locs hP hD hS => ?_)
  have hP : va_P G.1 vwCl [(rd, .inr (2, [.ref hk, .int 1, .int (-1)])), (hk, .inr (1, [.ref aw, .ref az, .ref an, .int (nI onn)])), (aw, .inl (gJ G, 120, .inr (.inl (kf_cp ofw fw onn)))), (az, .inl (gI G, 120, .inl (kf_cp ofz fz onn))), (an, .inl (gI G, 120, .inl (kf_cp ofv fv onn))), (ohk, .inr (1, [.ref oaw, .ref oaz, .ref oan, .int (nI onn)])), (oaw, .inl (gJ G, 120, .inr (.inl ofw))), (oaz, .inl (gI G, 120, .inl ofz)), (oan, .inl (gI G, 120, .inl ofv))] H := hP
  have hD : va_D A [(rd, .inr (2, [.ref hk, .int 1, .int (-1)])), (hk, .inr (1, [.ref aw, .ref az, .ref an, .int (nI onn)])), (aw, .inl (gJ G, 120, .inr (.inl (kf_cp ofw fw onn)))), (az, .inl (gI G, 120, .inl (kf_cp ofz fz onn))), (an, .inl (gI G, 120, .inl (kf_cp ofv fv onn))), (ohk, .inr (1, [.ref oaw, .ref oaz, .ref oan, .int (nI onn)])), (oaw, .inl (gJ G, 120, .inr (.inl ofw))), (oaz, .inl (gI G, 120, .inl ofz)), (oan, .inl (gI G, 120, .inl ofv))] := hD
  exact W.vret hx hb hr (fun t ht hW => ⟨⟨([(rd, .inr (2, [.ref hk, .int 1, .int (-1)])), (hk, .inr (1, [.ref aw, .ref az, .ref an, .int (nI onn)])), (aw, .inl (gJ G, 120, .inr (.inl (kf_cp ofw fw onn)))), (az, .inl (gI G, 120, .inl (kf_cp ofz fz onn))), (an, .inl (gI G, 120, .inl (kf_cp ofv fv onn))), (ohk, .inr (1, [.ref oaw, .ref oaz, .ref oan, .int (nI onn)])), (oaw, .inl (gJ G, 120, .inr (.inl ofw))), (oaz, .inl (gI G, 120, .inl ofz)), (oan, .inl (gI G, 120, .inl ofv))] : va_W), rfl, rfl, by rw [← ht] at hP; exact hP⟩, hS.F ht⟩) hS.2.2 dX2_begin_18

set_option maxHeartbeats 4000000 in
set_option maxRecDepth 100000 in
theorem c_X2_end (l : Launch) (G : kz_G) (rd : Nat) (ob : Bool) (pt : Nat) (hk aw az an nn : Nat) (fw : Nat → Int64) (fz fv : Nat → Int32) (sz : Nat) : Met l yX2_end wsX2_end { frames := 0, cells := 0, slots := 0, locals := 0 } (kz_Pm G [.ref rd] [(rd, .inr (2, [.ref hk, .int (kf_b ob), .int (kf_p pt)])), (hk, .inr (1, [.ref aw, .ref az, .ref an, .int (nI nn)])), (aw, .inl (gJ G, 120, .inr (.inl fw))), (az, .inl (gI G, 120, .inl fz)), (an, .inl (gI G, 120, .inl fv))] sz) (kz_Qv G (fun w => w = [(rd, .inr (2, [.ref hk, .int (kf_b false), .int (kf_p pt)])), (hk, .inr (1, [.ref aw, .ref az, .ref an, .int (nI nn)])), (aw, .inl (gJ G, 120, .inr (.inl fw))), (az, .inl (gI G, 120, .inl fz)), (an, .inl (gI G, 120, .inl fv))]) (va_A [(rd, .inr (2, [.ref hk, .int (kf_b ob), .int (kf_p pt)])), (hk, .inr (1, [.ref aw, .ref az, .ref an, .int (nI nn)])), (aw, .inl (gJ G, 120, .inr (.inl fw))), (az, .inl (gI G, 120, .inl fz)), (an, .inl (gI G, 120, .inl fv))] sz)) 0 0 (va_A [(rd, .inr (2, [.ref hk, .int (kf_b ob), .int (kf_p pt)])), (hk, .inr (1, [.ref aw, .ref az, .ref an, .int (nI nn)])), (aw, .inl (gJ G, 120, .inr (.inl fw))), (az, .inl (gI G, 120, .inl fz)), (an, .inl (gI G, 120, .inl fv))] sz) := by
  refine Met.ofW (cc := cX2_end) (maxL := 1) (ret := none) (by decide) rfl ?_
  intro p e s m args below meth c s₁ B hml hv
  obtain ⟨rfl, hsz, hP, hK, hD0⟩ := hv
  have hx := B.exec
  have hb := B.bytes
  have hr := B.returns
  have hts := atoms_spec (ws := wsX2_end) B.pre
  have hown : s.vm.findClass RX2 = some m.cls := findClass_of_methodNamed B.named
  have hlocks := B.notSynchronized
  have hinX2 : ∀ w ∈ wsX20, w ∈ wsX2_end := by decide +kernel
  subst hsz
  have hD := hD0.self (sz := s.heap.size)
  generalize hAe : va_A [(rd, .inr (2, [.ref hk, .int (kf_b ob), .int (kf_p pt)])), (hk, .inr (1, [.ref aw, .ref az, .ref an, .int (nI nn)])), (aw, .inl (gJ G, 120, .inr (.inl fw))), (az, .inl (gI G, 120, .inl fz)), (an, .inl (gI G, 120, .inl fv))] s.heap.size = A at hD ⊢
  have hA : ∀ q : Nat, s.heap.size ≤ q → A q := fun q h => by rw [← hAe]; exact Or.inr h
  have hS : va_S A s.heap s.heap [] := va_S.rf
  have hP : va_P G.1 vwCl [(rd, .inr (2, [.ref hk, .int (kf_b ob), .int (kf_p pt)])), (hk, .inr (1, [.ref aw, .ref az, .ref an, .int (nI nn)])), (aw, .inl (gJ G, 120, .inr (.inl fw))), (az, .inl (gI G, 120, .inl fz)), (an, .inl (gI G, 120, .inl fv))] s.heap := hP
  have hl := lv_entry ([.ref rd]) (n := 1) (Nat.le_of_ble_eq_true rfl)
  rw [lg_entry_eq]
  generalize (lg_sl ([.ref rd]) ++ List.replicate (1 - (lg_sl ([.ref rd])).length) Slot.unset).toArray = ls at hl ⊢
  have hl : lv_has ls 1 [(0, .ref rd)] := hl
  refine lv_aload_n hx hb dX2_end_0 rfl (lv_at hl 0 rfl) ?_
  refine lv_iconst (v := 0) hx hb dX2_end_1 (by decide) ?_
  refine va_put (D := G.1) (ci := 2) (v := .int 0) (ty := .boolean) (C := RX2) (T := TX2) (N := 3) hx hb hts hinX2 tyX2 tyX2_ok nmX2 hown hK.1 hP hD hS 0 rfl rfl 1 (by decide) (hts (.fieldLink RX2 18 "ForkStore$Reader" "isOpen" "Z") (by decide +kernel)) (fun _ h9 => h9) rfl (by decide +kernel) rfl rfl (Nat.le_of_ble_eq_true rfl) dX2_end_2 (fun H locs hP hD hS => ?_)
  have hP : va_P G.1 vwCl [(rd, .inr (2, [.ref hk, .int 0, .int (kf_p pt)])), (hk, .inr (1, [.ref aw, .ref az, .ref an, .int (nI nn)])), (aw, .inl (gJ G, 120, .inr (.inl fw))), (az, .inl (gI G, 120, .inl fz)), (an, .inl (gI G, 120, .inl fv))] H := hP
  have hD : va_D A [(rd, .inr (2, [.ref hk, .int 0, .int (kf_p pt)])), (hk, .inr (1, [.ref aw, .ref az, .ref an, .int (nI nn)])), (aw, .inl (gJ G, 120, .inr (.inl fw))), (az, .inl (gI G, 120, .inl fz)), (an, .inl (gI G, 120, .inl fv))] := hD
  exact W.vret hx hb hr (fun t ht hW => ⟨⟨([(rd, .inr (2, [.ref hk, .int 0, .int (kf_p pt)])), (hk, .inr (1, [.ref aw, .ref az, .ref an, .int (nI nn)])), (aw, .inl (gJ G, 120, .inr (.inl fw))), (az, .inl (gI G, 120, .inl fz)), (an, .inl (gI G, 120, .inl fv))] : va_W), rfl, rfl, by rw [← ht] at hP; exact hP⟩, hS.F ht⟩) hS.2.2 dX2_end_5

theorem kf_ltc {k nn : Nat} (h : k ≤ nn) (hn : nn ≤ 120) : (if 0 ≤ kf_p (k + 1) ∧ kf_p (k + 1) < nI nn then (1 : Int32) else 0) = if k < nn then 1 else 0 := by
  rw [kf_p_ib (by omega) hn]
  by_cases h2 : k < nn
  · rw [if_pos h2, if_pos ⟨by omega, by omega⟩]
  · rw [if_neg h2, if_neg (by omega)]

set_option maxHeartbeats 4000000 in
set_option maxRecDepth 100000 in
theorem c_X2_goToOrBehind (l : Launch) (G : kz_G) (rd : Nat) (ob : Bool) (pt : Nat) (hk aw az an nn : Nat) (fw : Nat → Int64) (zs : Nat → Nat) (fv : Nat → Int32) (ww : Int64) (zz : Nat) (sz : Nat) (hn : nn ≤ 120) (hz : ∀ j, zs j ≤ 8) (hzz : zz ≤ 8) : Met l yX2_goToOrBehind wsX2_goToOrBehind { frames := 3, cells := 0, slots := 0, locals := 71 } (kz_Pm G [.ref rd, .long ww, .int (nI zz)] [(rd, .inr (2, [.ref hk, .int (kf_b ob), .int (kf_p pt)])), (hk, .inr (1, [.ref aw, .ref az, .ref an, .int (nI nn)])), (aw, .inl (gJ G, 120, .inr (.inl fw))), (az, .inl (gI G, 120, .inl (kz_z zs))), (an, .inl (gI G, 120, .inl fv))] sz) (kz_Qi G (fun r w => r = (if kf_cb fw zs ww zz nn < nn then 1 else 0) ∧ w = [(rd, .inr (2, [.ref hk, .int (kf_b ob), .int (kf_p (kf_cb fw zs ww zz nn + 1))])), (hk, .inr (1, [.ref aw, .ref az, .ref an, .int (nI nn)])), (aw, .inl (gJ G, 120, .inr (.inl fw))), (az, .inl (gI G, 120, .inl (kz_z zs))), (an, .inl (gI G, 120, .inl fv))]) (va_A [(rd, .inr (2, [.ref hk, .int (kf_b ob), .int (kf_p pt)])), (hk, .inr (1, [.ref aw, .ref az, .ref an, .int (nI nn)])), (aw, .inl (gJ G, 120, .inr (.inl fw))), (az, .inl (gI G, 120, .inl (kz_z zs))), (an, .inl (gI G, 120, .inl fv))] sz)) 0 0 (va_A [(rd, .inr (2, [.ref hk, .int (kf_b ob), .int (kf_p pt)])), (hk, .inr (1, [.ref aw, .ref az, .ref an, .int (nI nn)])), (aw, .inl (gJ G, 120, .inr (.inl fw))), (az, .inl (gI G, 120, .inl (kz_z zs))), (an, .inl (gI G, 120, .inl fv))] sz) := by
  refine Met.ofW (cc := cX2_goToOrBehind) (maxL := 4) (ret := (some .boolean)) (by decide) rfl ?_
  intro p e s m args below meth c s₁ B hml hv
  obtain ⟨rfl, hsz, hP, hK, hD0⟩ := hv
  have hx := B.exec
  have hb := B.bytes
  have hr := B.returns
  have hts := atoms_spec (ws := wsX2_goToOrBehind) B.pre
  have hown : s.vm.findClass RX2 = some m.cls := findClass_of_methodNamed B.named
  have hlocks := B.notSynchronized
  have hinX2 : ∀ w ∈ wsX20, w ∈ wsX2_goToOrBehind := by decide +kernel
  subst hsz
  have hD := hD0.self (sz := s.heap.size)
  generalize hAe : va_A [(rd, .inr (2, [.ref hk, .int (kf_b ob), .int (kf_p pt)])), (hk, .inr (1, [.ref aw, .ref az, .ref an, .int (nI nn)])), (aw, .inl (gJ G, 120, .inr (.inl fw))), (az, .inl (gI G, 120, .inl (kz_z zs))), (an, .inl (gI G, 120, .inl fv))] s.heap.size = A at hD ⊢
  have hA : ∀ q : Nat, s.heap.size ≤ q → A q := fun q h => by rw [← hAe]; exact Or.inr h
  have hS : va_S A s.heap s.heap [] := va_S.rf
  have hP : va_P G.1 vwCl [(rd, .inr (2, [.ref hk, .int (kf_b ob), .int (kf_p pt)])), (hk, .inr (1, [.ref aw, .ref az, .ref an, .int (nI nn)])), (aw, .inl (gJ G, 120, .inr (.inl fw))), (az, .inl (gI G, 120, .inl (kz_z zs))), (an, .inl (gI G, 120, .inl fv))] s.heap := hP
  have hl := lv_entry ([.ref rd, .long ww, .int (nI zz)]) (n := 4) (Nat.le_of_ble_eq_true rfl)
  rw [lg_entry_eq]
  generalize (lg_sl ([.ref rd, .long ww, .int (nI zz)]) ++ List.replicate (4 - (lg_sl ([.ref rd, .long ww, .int (nI zz)])).length) Slot.unset).toArray = ls at hl ⊢
  have hl : lv_has ls 4 [(0, .ref rd), (1, .long ww), (3, .int (nI zz))] := hl
  refine lv_aload_n hx hb dX2_goToOrBehind_0 rfl (lv_at hl 0 rfl) ?_
  refine lv_aload_n hx hb dX2_goToOrBehind_1 rfl (lv_at hl 0 rfl) ?_
  refine va_get (D := G.1) (ci := 2) (v := .ref hk) (C := RX2) (T := TX2) (N := 3) hx hb hts hinX2 hown hK.1 hP 0 rfl rfl 0 (by decide) (hts (.fieldLink RX2 12 "ForkStore$Reader" "seen" "LForkStore$Keys;") (by decide +kernel)) (fun _ h9 => h9) rfl dX2_goToOrBehind_2 ?_
  refine lv_lload_n hx hb dX2_goToOrBehind_5 rfl (lv_at hl 1 rfl) ?_
  refine lv_iload_n hx hb dX2_goToOrBehind_6 rfl (lv_at hl 2 rfl) ?_
  have hPc := hP.sub (ws' := [(hk, .inr (1, [.ref aw, .ref az, .ref an, .int (nI nn)])), (aw, .inl (gJ G, 120, .inr (.inl fw))), (az, .inl (gI G, 120, .inl (kz_z zs))), (an, .inl (gI G, 120, .inl fv))]) [1, 2, 3, 4] rfl
  refine kz_ci (v := nI (kf_cb fw zs ww zz nn)) (va_runV (As := [.long ww, .int (nI zz)]) (rest := [.ref rd]) ⟨hx, hb, hml, hown, hts⟩ (c_X1_countBefore l G hk aw az an nn fw zs fv ww zz (by omega) hz (by omega)) (cwV 2 hts gX2_goToOrBehind_X1_countBefore rfl rfl rfl (by decide +kernel) ⟨Nat.le_of_ble_eq_true rfl, Nat.le_of_ble_eq_true rfl⟩) (kz_pv hK hPc (va_recv hK.1 hPc (ci := 1) (q0 := 0) rfl rfl)) rfl rfl hl.1 rfl (lv_room (Nat.le_of_ble_eq_true rfl)) dX2_goToOrBehind_7 ⟨Nat.zero_le _, Nat.zero_le _⟩).run ?_
  refine kz_asi (y := kf_p (kf_cb fw zs ww zz nn + 1)) ((kf_p_s _).symm) ?_
  refine va_put (D := G.1) (ci := 2) (v := .int (kf_p (kf_cb fw zs ww zz nn + 1))) (ty := .int) (C := RX2) (T := TX2) (N := 3) hx hb hts hinX2 tyX2 tyX2_ok nmX2 hown hK.1 hP hD hS 0 rfl rfl 2 (by decide) (hts (.fieldLink RX2 22 "ForkStore$Reader" "place" "I") (by decide +kernel)) (fun _ h9 => h9) rfl (by decide +kernel) rfl rfl (Nat.le_of_ble_eq_true rfl) dX2_goToOrBehind_10 (fun H locs hP hD hS => ?_)
  have hP : va_P G.1 vwCl [(rd, .inr (2, [.ref hk, .int (kf_b ob), .int (kf_p (kf_cb fw zs ww zz nn + 1))])), (hk, .inr (1, [.ref aw, .ref az, .ref an, .int (nI nn)])), (aw, .inl (gJ G, 120, .inr (.inl fw))), (az, .inl (gI G, 120, .inl (kz_z zs))), (an, .inl (gI G, 120, .inl fv))] H := hP
  have hD : va_D A [(rd, .inr (2, [.ref hk, .int (kf_b ob), .int (kf_p (kf_cb fw zs ww zz nn + 1))])), (hk, .inr (1, [.ref aw, .ref az, .ref an, .int (nI nn)])), (aw, .inl (gJ G, 120, .inr (.inl fw))), (az, .inl (gI G, 120, .inl (kz_z zs))), (an, .inl (gI G, 120, .inl fv))] := hD
  refine lv_aload_n hx hb dX2_goToOrBehind_13 rfl (lv_at hl 0 rfl) ?_
  refine va_get (D := G.1) (ci := 2) (v := .ref hk) (C := RX2) (T := TX2) (N := 3) hx hb hts hinX2 hown hK.1 hP 0 rfl rfl 0 (by decide) (hts (.fieldLink RX2 12 "ForkStore$Reader" "seen" "LForkStore$Keys;") (by decide +kernel)) (fun _ h9 => h9) rfl dX2_goToOrBehind_14 ?_
  refine lv_aload_n hx hb dX2_goToOrBehind_17 rfl (lv_at hl 0 rfl) ?_
  refine va_get (D := G.1) (ci := 2) (v := .int (kf_p (kf_cb fw zs ww zz nn + 1))) (C := RX2) (T := TX2) (N := 3) hx hb hts hinX2 hown hK.1 hP 0 rfl rfl 2 (by decide) (hts (.fieldLink RX2 22 "ForkStore$Reader" "place" "I") (by decide +kernel)) (fun _ h9 => h9) rfl dX2_goToOrBehind_18 ?_
  have hPc := hP.sub (ws' := [(hk, .inr (1, [.ref aw, .ref az, .ref an, .int (nI nn)])), (aw, .inl (gJ G, 120, .inr (.inl fw))), (az, .inl (gI G, 120, .inl (kz_z zs))), (an, .inl (gI G, 120, .inl fv))]) [1, 2, 3, 4] rfl
  refine kz_ci (v := if 0 ≤ kf_p (kf_cb fw zs ww zz nn + 1) ∧ kf_p (kf_cb fw zs ww zz nn + 1) < nI nn then 1 else 0) (va_runV (As := [.int (kf_p (kf_cb fw zs ww zz nn + 1))]) (rest := []) ⟨hx, hb, hml, hown, hts⟩ (c_X1_isPlace l G hk aw az an nn fw (kz_z zs) fv (kf_p (kf_cb fw zs ww zz nn + 1)) ) (cwV 1 hts gX2_goToOrBehind_X1_isPlace rfl rfl rfl (by decide +kernel) ⟨Nat.le_of_ble_eq_true rfl, Nat.le_of_ble_eq_true rfl⟩) (kz_pv hK hPc (va_recv hK.1 hPc (ci := 1) (q0 := 0) rfl rfl)) rfl rfl hl.1 rfl (lv_room (Nat.le_of_ble_eq_true rfl)) dX2_goToOrBehind_21 ⟨Nat.zero_le _, Nat.zero_le _⟩).run ?_
  refine kz_asi (y := if kf_cb fw zs ww zz nn < nn then 1 else 0) (kf_ltc (kf_cb_le _ _ _ _ _) hn) ?_
  exact W.zret (v := if kf_cb fw zs ww zz nn < nn then 1 else 0) hx hb hr (by split <;> rfl) (fun t ht hW => ⟨⟨_, ([(rd, .inr (2, [.ref hk, .int (kf_b ob), .int (kf_p (kf_cb fw zs ww zz nn + 1))])), (hk, .inr (1, [.ref aw, .ref az, .ref an, .int (nI nn)])), (aw, .inl (gJ G, 120, .inr (.inl fw))), (az, .inl (gI G, 120, .inl (kz_z zs))), (an, .inl (gI G, 120, .inl fv))] : va_W), rfl, ⟨rfl, rfl⟩, by rw [← ht] at hP; exact hP⟩, hS.F ht⟩) hS.2.2 dX2_goToOrBehind_24

set_option maxHeartbeats 4000000 in
set_option maxRecDepth 100000 in
theorem c_X2_goOn (l : Launch) (G : kz_G) (rd : Nat) (ob : Bool) (pt : Nat) (hk aw az an nn : Nat) (fw : Nat → Int64) (fz fv : Nat → Int32) (sz : Nat) (hpt : pt ≤ 100000) (hn : nn ≤ 120) : Met l yX2_goOn wsX2_goOn { frames := 1, cells := 0, slots := 0, locals := 21 } (kz_Pm G [.ref rd] [(rd, .inr (2, [.ref hk, .int (kf_b ob), .int (kf_p pt)])), (hk, .inr (1, [.ref aw, .ref az, .ref an, .int (nI nn)])), (aw, .inl (gJ G, 120, .inr (.inl fw))), (az, .inl (gI G, 120, .inl fz)), (an, .inl (gI G, 120, .inl fv))] sz) (kz_Qi G (fun r w => r = (if min pt nn < nn then 1 else 0) ∧ w = [(rd, .inr (2, [.ref hk, .int (kf_b ob), .int (kf_p (min pt nn + 1))])), (hk, .inr (1, [.ref aw, .ref az, .ref an, .int (nI nn)])), (aw, .inl (gJ G, 120, .inr (.inl fw))), (az, .inl (gI G, 120, .inl fz)), (an, .inl (gI G, 120, .inl fv))]) (va_A [(rd, .inr (2, [.ref hk, .int (kf_b ob), .int (kf_p pt)])), (hk, .inr (1, [.ref aw, .ref az, .ref an, .int (nI nn)])), (aw, .inl (gJ G, 120, .inr (.inl fw))), (az, .inl (gI G, 120, .inl fz)), (an, .inl (gI G, 120, .inl fv))] sz)) 0 0 (va_A [(rd, .inr (2, [.ref hk, .int (kf_b ob), .int (kf_p pt)])), (hk, .inr (1, [.ref aw, .ref az, .ref an, .int (nI nn)])), (aw, .inl (gJ G, 120, .inr (.inl fw))), (az, .inl (gI G, 120, .inl fz)), (an, .inl (gI G, 120, .inl fv))] sz) := by
  refine Met.ofW (cc := cX2_goOn) (maxL := 1) (ret := (some .boolean)) (by decide) rfl ?_
  intro p e s m args below meth c s₁ B hml hv
  obtain ⟨rfl, hsz, hP, hK, hD0⟩ := hv
  have hx := B.exec
  have hb := B.bytes
  have hr := B.returns
  have hts := atoms_spec (ws := wsX2_goOn) B.pre
  have hown : s.vm.findClass RX2 = some m.cls := findClass_of_methodNamed B.named
  have hlocks := B.notSynchronized
  have hinX2 : ∀ w ∈ wsX20, w ∈ wsX2_goOn := by decide +kernel
  subst hsz
  have hD := hD0.self (sz := s.heap.size)
  generalize hAe : va_A [(rd, .inr (2, [.ref hk, .int (kf_b ob), .int (kf_p pt)])), (hk, .inr (1, [.ref aw, .ref az, .ref an, .int (nI nn)])), (aw, .inl (gJ G, 120, .inr (.inl fw))), (az, .inl (gI G, 120, .inl fz)), (an, .inl (gI G, 120, .inl fv))] s.heap.size = A at hD ⊢
  have hA : ∀ q : Nat, s.heap.size ≤ q → A q := fun q h => by rw [← hAe]; exact Or.inr h
  have hS : va_S A s.heap s.heap [] := va_S.rf
  have hP : va_P G.1 vwCl [(rd, .inr (2, [.ref hk, .int (kf_b ob), .int (kf_p pt)])), (hk, .inr (1, [.ref aw, .ref az, .ref an, .int (nI nn)])), (aw, .inl (gJ G, 120, .inr (.inl fw))), (az, .inl (gI G, 120, .inl fz)), (an, .inl (gI G, 120, .inl fv))] s.heap := hP
  have hl := lv_entry ([.ref rd]) (n := 1) (Nat.le_of_ble_eq_true rfl)
  rw [lg_entry_eq]
  generalize (lg_sl ([.ref rd]) ++ List.replicate (1 - (lg_sl ([.ref rd])).length) Slot.unset).toArray = ls at hl ⊢
  have hl : lv_has ls 1 [(0, .ref rd)] := hl
  refine lv_aload_n hx hb dX2_goOn_0 rfl (lv_at hl 0 rfl) ?_
  refine lv_aload_n hx hb dX2_goOn_1 rfl (lv_at hl 0 rfl) ?_
  refine va_get (D := G.1) (ci := 2) (v := .int (kf_p pt)) (C := RX2) (T := TX2) (N := 3) hx hb hts hinX2 hown hK.1 hP 0 rfl rfl 2 (by decide) (hts (.fieldLink RX2 22 "ForkStore$Reader" "place" "I") (by decide +kernel)) (fun _ h9 => h9) rfl dX2_goOn_2 ?_
  refine lv_iconst (v := 1) hx hb dX2_goOn_5 (by decide) ?_
  refine lv_iadd hx hb dX2_goOn_6 ?_
  refine kz_asi (y := nI pt) (kf_p_1 pt) ?_
  refine lv_aload_n hx hb dX2_goOn_7 rfl (lv_at hl 0 rfl) ?_
  refine va_get (D := G.1) (ci := 2) (v := .ref hk) (C := RX2) (T := TX2) (N := 3) hx hb hts hinX2 hown hK.1 hP 0 rfl rfl 0 (by decide) (hts (.fieldLink RX2 12 "ForkStore$Reader" "seen" "LForkStore$Keys;") (by decide +kernel)) (fun _ h9 => h9) rfl dX2_goOn_8 ?_
  have hPc := hP.sub (ws' := [(hk, .inr (1, [.ref aw, .ref az, .ref an, .int (nI nn)])), (aw, .inl (gJ G, 120, .inr (.inl fw))), (az, .inl (gI G, 120, .inl fz)), (an, .inl (gI G, 120, .inl fv))]) [1, 2, 3, 4] rfl
  refine kz_ci (v := nI nn) (va_runV (As := []) (rest := [.int (nI pt), .ref rd]) ⟨hx, hb, hml, hown, hts⟩ (c_X1_count l G hk aw az an nn fw fz fv  ) (cwV 0 hts gX2_goOn_X1_count rfl rfl rfl (by decide +kernel) ⟨Nat.le_of_ble_eq_true rfl, Nat.le_of_ble_eq_true rfl⟩) (kz_pv hK hPc (va_recv hK.1 hPc (ci := 1) (q0 := 0) rfl rfl)) rfl rfl hl.1 rfl (lv_room (Nat.le_of_ble_eq_true rfl)) dX2_goOn_11 ⟨Nat.zero_le _, Nat.zero_le _⟩).run ?_
  refine va_mmin hx hb (by rw [hml]; exact hl.1.symm) hown (hts (.methodLink RX2 42 Lib.Math.min.name) (by decide +kernel)) (hts (.static Lib.Math.min.name) (by decide +kernel)) (hts (.initialized "java/lang/Math") (by decide +kernel)) (hts (.code Lib.Math.min.name Lib.Math.min.code 2 (some .int)) (by decide +kernel)) (Nat.le_of_ble_eq_true rfl) (Nat.le_of_ble_eq_true rfl) (Nat.zero_le _) (Nat.zero_le _) dX2_goOn_14 ?_
  refine kz_asi (y := kf_p (min pt nn + 1)) ((kf_min (by omega) (by omega)).trans (kf_p_s _).symm) ?_
  refine va_put (D := G.1) (ci := 2) (v := .int (kf_p (min pt nn + 1))) (ty := .int) (C := RX2) (T := TX2) (N := 3) hx hb hts hinX2 tyX2 tyX2_ok nmX2 hown hK.1 hP hD hS 0 rfl rfl 2 (by decide) (hts (.fieldLink RX2 22 "ForkStore$Reader" "place" "I") (by decide +kernel)) (fun _ h9 => h9) rfl (by decide +kernel) rfl rfl (Nat.le_of_ble_eq_true rfl) dX2_goOn_17 (fun H locs hP hD hS => ?_)
  have hP : va_P G.1 vwCl [(rd, .inr (2, [.ref hk, .int (kf_b ob), .int (kf_p (min pt nn + 1))])), (hk, .inr (1, [.ref aw, .ref az, .ref an, .int (nI nn)])), (aw, .inl (gJ G, 120, .inr (.inl fw))), (az, .inl (gI G, 120, .inl fz)), (an, .inl (gI G, 120, .inl fv))] H := hP
  have hD : va_D A [(rd, .inr (2, [.ref hk, .int (kf_b ob), .int (kf_p (min pt nn + 1))])), (hk, .inr (1, [.ref aw, .ref az, .ref an, .int (nI nn)])), (aw, .inl (gJ G, 120, .inr (.inl fw))), (az, .inl (gI G, 120, .inl fz)), (an, .inl (gI G, 120, .inl fv))] := hD
  refine lv_aload_n hx hb dX2_goOn_20 rfl (lv_at hl 0 rfl) ?_
  refine va_get (D := G.1) (ci := 2) (v := .ref hk) (C := RX2) (T := TX2) (N := 3) hx hb hts hinX2 hown hK.1 hP 0 rfl rfl 0 (by decide) (hts (.fieldLink RX2 12 "ForkStore$Reader" "seen" "LForkStore$Keys;") (by decide +kernel)) (fun _ h9 => h9) rfl dX2_goOn_21 ?_
  refine lv_aload_n hx hb dX2_goOn_24 rfl (lv_at hl 0 rfl) ?_
  refine va_get (D := G.1) (ci := 2) (v := .int (kf_p (min pt nn + 1))) (C := RX2) (T := TX2) (N := 3) hx hb hts hinX2 hown hK.1 hP 0 rfl rfl 2 (by decide) (hts (.fieldLink RX2 22 "ForkStore$Reader" "place" "I") (by decide +kernel)) (fun _ h9 => h9) rfl dX2_goOn_25 ?_
  have hPc := hP.sub (ws' := [(hk, .inr (1, [.ref aw, .ref az, .ref an, .int (nI nn)])), (aw, .inl (gJ G, 120, .inr (.inl fw))), (az, .inl (gI G, 120, .inl fz)), (an, .inl (gI G, 120, .inl fv))]) [1, 2, 3, 4] rfl
  refine kz_ci (v := if 0 ≤ kf_p (min pt nn + 1) ∧ kf_p (min pt nn + 1) < nI nn then 1 else 0) (va_runV (As := [.int (kf_p (min pt nn + 1))]) (rest := []) ⟨hx, hb, hml, hown, hts⟩ (c_X1_isPlace l G hk aw az an nn fw fz fv (kf_p (min pt nn + 1)) ) (cwV 1 hts gX2_goOn_X1_isPlace rfl rfl rfl (by decide +kernel) ⟨Nat.le_of_ble_eq_true rfl, Nat.le_of_ble_eq_true rfl⟩) (kz_pv hK hPc (va_recv hK.1 hPc (ci := 1) (q0 := 0) rfl rfl)) rfl rfl hl.1 rfl (lv_room (Nat.le_of_ble_eq_true rfl)) dX2_goOn_28 ⟨Nat.zero_le _, Nat.zero_le _⟩).run ?_
  refine kz_asi (y := if min pt nn < nn then 1 else 0) (kf_ltc (Nat.min_le_right _ _) hn) ?_
  exact W.zret (v := if min pt nn < nn then 1 else 0) hx hb hr (by split <;> rfl) (fun t ht hW => ⟨⟨_, ([(rd, .inr (2, [.ref hk, .int (kf_b ob), .int (kf_p (min pt nn + 1))])), (hk, .inr (1, [.ref aw, .ref az, .ref an, .int (nI nn)])), (aw, .inl (gJ G, 120, .inr (.inl fw))), (az, .inl (gI G, 120, .inl fz)), (an, .inl (gI G, 120, .inl fv))] : va_W), rfl, ⟨rfl, rfl⟩, by rw [← ht] at hP; exact hP⟩, hS.F ht⟩) hS.2.2 dX2_goOn_31
end
section
theorem kf_dn_z (zs : Nat → Nat) (k i : Nat) : kf_dn (kz_z zs) k i = kz_z (kf_dn zs k i) := by
  funext j
  unfold kz_z kf_dn
  split <;> rfl
theorem kf_up_z (zs : Nat → Nat) (k i y : Nat) : upd (kf_up (kz_z zs) k i) k (nI y) = kz_z (kz_un (kf_up zs k i) k y) := by
  funext j
  unfold kz_z kf_up upd kz_un
  dsimp only
  split
  · rfl
  · split <;> rfl
theorem kf_cp_z (g f : Nat → Nat) (i : Nat) : kf_cp (kz_z g) (kz_z f) i = kz_z (kf_cp g f i) := by
  funext j
  unfold kz_z kf_cp
  split <;> rfl
/-- the key (b, y) has a value -/
abbrev kf_st (fw : Nat → Int64) (zs : Nat → Nat) (b : Int64) (y nn : Nat) : Prop := kf_cb fw zs b y nn < nn ∧ fw (kf_cb fw zs b y nn) = b ∧ zs (kf_cb fw zs b y nn) = y
abbrev kf_zn (nv : Int32) : Nat := nv.toNatClampNeg

set_option maxHeartbeats 4000000 in
set_option maxRecDepth 100000 in
theorem c_X3_size (l : Launch) (G : kz_G) (xo hc ra : Nat) (hk aw az an nn : Nat) (fw : Nat → Int64) (fz fv : Nat → Int32) : Met l yX3_size wsX3_size { frames := 1, cells := 0, slots := 0, locals := 20 } (kz_Pp G [.ref xo] [(xo, .inr (3, [.ref hk, .ref hc, .ref ra])), (hk, .inr (1, [.ref aw, .ref az, .ref an, .int (nI nn)])), (aw, .inl (gJ G, 120, .inr (.inl fw))), (az, .inl (gI G, 120, .inl fz)), (an, .inl (gI G, 120, .inl fv))]) (vp_Si (fun r => r = nI nn)) 0 0 (fun _ => False) := by
  refine Met.ofW (cc := cX3_size) (maxL := 1) (ret := (some .int)) (by decide) rfl ?_
  intro p e s m args below meth c s₁ B hml hv
  obtain ⟨rfl, hP, hK⟩ := hv
  have hx := B.exec
  have hb := B.bytes
  have hr := B.returns
  have hts := atoms_spec (ws := wsX3_size) B.pre
  have hown : s.vm.findClass RX3 = some m.cls := findClass_of_methodNamed B.named
  have hlocks := B.notSynchronized
  have hinX3 : ∀ w ∈ wsX30, w ∈ wsX3_size := by decide +kernel
  have hP : va_P G.1 vwCl [(xo, .inr (3, [.ref hk, .ref hc, .ref ra])), (hk, .inr (1, [.ref aw, .ref az, .ref an, .int (nI nn)])), (aw, .inl (gJ G, 120, .inr (.inl fw))), (az, .inl (gI G, 120, .inl fz)), (an, .inl (gI G, 120, .inl fv))] s.heap := hP
  have hl := lv_entry ([.ref xo]) (n := 1) (Nat.le_of_ble_eq_true rfl)
  rw [lg_entry_eq]
  generalize (lg_sl ([.ref xo]) ++ List.replicate (1 - (lg_sl ([.ref xo])).length) Slot.unset).toArray = ls at hl ⊢
  have hl : lv_has ls 1 [(0, .ref xo)] := hl
  refine lv_aload_n hx hb dX3_size_0 rfl (lv_at hl 0 rfl) ?_
  refine va_get (D := G.1) (ci := 3) (v := .ref hk) (C := RX3) (T := TX3) (N := 3) hx hb hts hinX3 hown hK.1 hP 0 rfl rfl 0 (by decide) (hts (.fieldLink RX3 10 "ForkStore" "keys" "LForkStore$Keys;") (by decide +kernel)) (fun _ h9 => h9) rfl dX3_size_1 ?_
  have hPc := hP.sub (ws' := [(hk, .inr (1, [.ref aw, .ref az, .ref an, .int (nI nn)])), (aw, .inl (gJ G, 120, .inr (.inl fw))), (az, .inl (gI G, 120, .inl fz)), (an, .inl (gI G, 120, .inl fv))]) [1, 2, 3, 4] rfl
  refine kz_ci (v := nI nn) (va_runV (As := []) (rest := []) ⟨hx, hb, hml, hown, hts⟩ (c_X1_count l G hk aw az an nn fw fz fv  ) (cwV 0 hts gX3_size_X1_count rfl rfl rfl (by decide +kernel) ⟨Nat.le_of_ble_eq_true rfl, Nat.le_of_ble_eq_true rfl⟩) (kz_pv hK hPc (va_recv hK.1 hPc (ci := 1) (q0 := 0) rfl rfl)) rfl rfl hl.1 rfl (lv_room (Nat.le_of_ble_eq_true rfl)) dX3_size_4 ⟨Nat.zero_le _, Nat.zero_le _⟩).run ?_
  exact W.iret (v := nI nn) hx hb hr (fun t ht hW => ⟨_, rfl, rfl, ht⟩) (fun _ h => nomatch h) dX3_size_7

set_option maxHeartbeats 4000000 in
set_option maxRecDepth 100000 in
theorem c_X3_within (l : Launch) (G : kz_G) (xo hc ra : Nat) (hk aw az an nn : Nat) (fw : Nat → Int64) (zs : Nat → Nat) (fv : Nat → Int32) (ww : Int64) (nv : Int32) (hn : nn ≤ 120) (hz : ∀ j, zs j ≤ 8) : Met l yX3_within wsX3_within { frames := 4, cells := 0, slots := 0, locals := 94 } (kz_Pp G [.ref xo, .long ww, .int nv] [(xo, .inr (3, [.ref hk, .ref hc, .ref ra])), (hk, .inr (1, [.ref aw, .ref az, .ref an, .int (nI nn)])), (aw, .inl (gJ G, 120, .inr (.inl fw))), (az, .inl (gI G, 120, .inl (kz_z zs))), (an, .inl (gI G, 120, .inl fv))]) (vp_Si (fun r => r = if 0 ≤ nv ∧ nv ≤ 8 then nI (kf_cnt (kf_bw fw zs (kf_cut ww (kf_zn nv)) (kf_zn nv)) nn) else 0)) 0 0 (fun _ => False) := by
  refine Met.ofW (cc := cX3_within) (maxL := 4) (ret := (some .int)) (by decide) rfl ?_
  intro p e s m args below meth c s₁ B hml hv
  obtain ⟨rfl, hP, hK⟩ := hv
  have hx := B.exec
  have hb := B.bytes
  have hr := B.returns
  have hts := atoms_spec (ws := wsX3_within) B.pre
  have hown : s.vm.findClass RX3 = some m.cls := findClass_of_methodNamed B.named
  have hlocks := B.notSynchronized
  have hinX3 : ∀ w ∈ wsX30, w ∈ wsX3_within := by decide +kernel
  have hP : va_P G.1 vwCl [(xo, .inr (3, [.ref hk, .ref hc, .ref ra])), (hk, .inr (1, [.ref aw, .ref az, .ref an, .int (nI nn)])), (aw, .inl (gJ G, 120, .inr (.inl fw))), (az, .inl (gI G, 120, .inl (kz_z zs))), (an, .inl (gI G, 120, .inl fv))] s.heap := hP
  have hl := lv_entry ([.ref xo, .long ww, .int nv]) (n := 4) (Nat.le_of_ble_eq_true rfl)
  rw [lg_entry_eq]
  generalize (lg_sl ([.ref xo, .long ww, .int nv]) ++ List.replicate (4 - (lg_sl ([.ref xo, .long ww, .int nv])).length) Slot.unset).toArray = ls at hl ⊢
  have hl : lv_has ls 4 [(0, .ref xo), (1, .long ww), (3, .int nv)] := hl
  refine lv_iload_n hx hb dX3_within_0 rfl (lv_at hl 2 rfl) ?_
  refine kz_ci (v := if 0 ≤ nv ∧ nv ≤ 8 then 1 else 0) (va_runS (As := [.int nv]) (rest := []) ⟨hx, hb, hml, hown, hts⟩ (c_X3_isKeySize l nv) (va_cwS 1 hts gX3_within_X3_isKeySize rfl rfl rfl (by decide +kernel) ⟨Nat.le_of_ble_eq_true rfl, Nat.le_of_ble_eq_true rfl⟩) kz_ps0 rfl rfl hl.1 rfl (lv_room (Nat.le_of_ble_eq_true rfl)) dX3_within_1 ⟨Nat.zero_le _, Nat.zero_le _⟩).run ?_
  refine lv_if_eq (tgt := 23) hx hb dX3_within_4 (by decide) (fun c_1 => ?_) (fun c_1 => ?_)
  · have kc_1 := kf_if0 c_1
    refine lv_iconst (v := 0) hx hb dX3_within_23 (by decide) ?_
    exact W.iret (v := 0) hx hb hr (fun t ht hW => ⟨_, rfl, (if_neg kc_1).symm, ht⟩) (fun _ h => nomatch h) dX3_within_24
  · have kc_1 := kf_if1 c_1
    obtain ⟨zz, hzz, rfl⟩ := kf_ok_nat kc_1
    refine lv_aload_n hx hb dX3_within_7 rfl (lv_at hl 0 rfl) ?_
    refine va_get (D := G.1) (ci := 3) (v := .ref hk) (C := RX3) (T := TX3) (N := 3) hx hb hts hinX3 hown hK.1 hP 0 rfl rfl 0 (by decide) (hts (.fieldLink RX3 10 "ForkStore" "keys" "LForkStore$Keys;") (by decide +kernel)) (fun _ h9 => h9) rfl dX3_within_8 ?_
    refine lv_lload_n hx hb dX3_within_11 rfl (lv_at hl 1 rfl) ?_
    refine lv_iload_n hx hb dX3_within_12 rfl (lv_at hl 2 rfl) ?_
    refine kz_cl (v := kf_cut ww zz) (va_runS (As := [.long ww, .int (nI zz)]) (rest := [.ref hk]) ⟨hx, hb, hml, hown, hts⟩ (c_X3_highestBytes l ww zz (by omega)) (va_cwS 2 hts gX3_within_X3_highestBytes rfl rfl rfl (by decide +kernel) ⟨Nat.le_of_ble_eq_true rfl, Nat.le_of_ble_eq_true rfl⟩) kz_ps0 rfl rfl hl.1 rfl (lv_room (Nat.le_of_ble_eq_true rfl)) dX3_within_13 ⟨Nat.zero_le _, Nat.zero_le _⟩).run ?_
    refine lv_iload_n hx hb dX3_within_16 rfl (lv_at hl 2 rfl) ?_
    have hPc := hP.sub (ws' := [(hk, .inr (1, [.ref aw, .ref az, .ref an, .int (nI nn)])), (aw, .inl (gJ G, 120, .inr (.inl fw))), (az, .inl (gI G, 120, .inl (kz_z zs))), (an, .inl (gI G, 120, .inl fv))]) [1, 2, 3, 4] rfl
    refine kz_ci (v := nI (kf_cnt (kf_bw fw zs (kf_cut ww zz) zz) nn)) (va_runV (As := [.long (kf_cut ww zz), .int (nI zz)]) (rest := []) ⟨hx, hb, hml, hown, hts⟩ (c_X1_countBeginningWith l G hk aw az an nn fw zs fv (kf_cut ww zz) zz (by omega) hz (by omega)) (cwV 2 hts gX3_within_X1_countBeginningWith rfl rfl rfl (by decide +kernel) ⟨Nat.le_of_ble_eq_true rfl, Nat.le_of_ble_eq_true rfl⟩) (kz_pv hK hPc (va_recv hK.1 hPc (ci := 1) (q0 := 0) rfl rfl)) rfl rfl hl.1 rfl (lv_room (Nat.le_of_ble_eq_true rfl)) dX3_within_17 ⟨Nat.zero_le _, Nat.zero_le _⟩).run ?_
    refine lv_goto (tgt := 24) hx hb dX3_within_20 (by decide) ?_
    exact W.iret (v := nI (kf_cnt (kf_bw fw zs (kf_cut ww zz) zz) nn)) hx hb hr (fun t ht hW => ⟨_, rfl, (by rw [if_pos kc_1, kf_zn, nI_clamp (by omega)]), ht⟩) (fun _ h => nomatch h) dX3_within_24

set_option maxHeartbeats 4000000 in
set_option maxRecDepth 100000 in
theorem c_X3_rank (l : Launch) (G : kz_G) (xo hc ra : Nat) (hk aw az an nn : Nat) (fw : Nat → Int64) (zs : Nat → Nat) (fv : Nat → Int32) (ww : Int64) (nv : Int32) (hn : nn ≤ 120) (hz : ∀ j, zs j ≤ 8) : Met l yX3_rank wsX3_rank { frames := 3, cells := 0, slots := 0, locals := 71 } (kz_Pp G [.ref xo, .long ww, .int nv] [(xo, .inr (3, [.ref hk, .ref hc, .ref ra])), (hk, .inr (1, [.ref aw, .ref az, .ref an, .int (nI nn)])), (aw, .inl (gJ G, 120, .inr (.inl fw))), (az, .inl (gI G, 120, .inl (kz_z zs))), (an, .inl (gI G, 120, .inl fv))]) (vp_Si (fun r => r = if 0 ≤ nv ∧ nv ≤ 8 then nI (kf_cb fw zs (kf_cut ww (kf_zn nv)) (kf_zn nv) nn) else -1)) 0 0 (fun _ => False) := by
  refine Met.ofW (cc := cX3_rank) (maxL := 4) (ret := (some .int)) (by decide) rfl ?_
  intro p e s m args below meth c s₁ B hml hv
  obtain ⟨rfl, hP, hK⟩ := hv
  have hx := B.exec
  have hb := B.bytes
  have hr := B.returns
  have hts := atoms_spec (ws := wsX3_rank) B.pre
  have hown : s.vm.findClass RX3 = some m.cls := findClass_of_methodNamed B.named
  have hlocks := B.notSynchronized
  have hinX3 : ∀ w ∈ wsX30, w ∈ wsX3_rank := by decide +kernel
  have hP : va_P G.1 vwCl [(xo, .inr (3, [.ref hk, .ref hc, .ref ra])), (hk, .inr (1, [.ref aw, .ref az, .ref an, .int (nI nn)])), (aw, .inl (gJ G, 120, .inr (.inl fw))), (az, .inl (gI G, 120, .inl (kz_z zs))), (an, .inl (gI G, 120, .inl fv))] s.heap := hP
  have hl := lv_entry ([.ref xo, .long ww, .int nv]) (n := 4) (Nat.le_of_ble_eq_true rfl)
  rw [lg_entry_eq]
  generalize (lg_sl ([.ref xo, .long ww, .int nv]) ++ List.replicate (4 - (lg_sl ([.ref xo, .long ww, .int nv])).length) Slot.unset).toArray = ls at hl ⊢
  have hl : lv_has ls 4 [(0, .ref xo), (1, .long ww), (3, .int nv)] := hl
  refine lv_iload_n hx hb dX3_rank_0 rfl (lv_at hl 2 rfl) ?_
  refine kz_ci (v := if 0 ≤ nv ∧ nv ≤ 8 then 1 else 0) (va_runS (As := [.int nv]) (rest := []) ⟨hx, hb, hml, hown, hts⟩ (c_X3_isKeySize l nv) (va_cwS 1 hts gX3_rank_X3_isKeySize rfl rfl rfl (by decide +kernel) ⟨Nat.le_of_ble_eq_true rfl, Nat.le_of_ble_eq_true rfl⟩) kz_ps0 rfl rfl hl.1 rfl (lv_room (Nat.le_of_ble_eq_true rfl)) dX3_rank_1 ⟨Nat.zero_le _, Nat.zero_le _⟩).run ?_
  refine lv_if_eq (tgt := 23) hx hb dX3_rank_4 (by decide) (fun c_1 => ?_) (fun c_1 => ?_)
  · have kc_1 := kf_if0 c_1
    refine lv_iconst (v := (-1)) hx hb dX3_rank_23 (by decide) ?_
    exact W.iret (v := (-1)) hx hb hr (fun t ht hW => ⟨_, rfl, (if_neg kc_1).symm, ht⟩) (fun _ h => nomatch h) dX3_rank_24
  · have kc_1 := kf_if1 c_1
    obtain ⟨zz, hzz, rfl⟩ := kf_ok_nat kc_1
    refine lv_aload_n hx hb dX3_rank_7 rfl (lv_at hl 0 rfl) ?_
    refine va_get (D := G.1) (ci := 3) (v := .ref hk) (C := RX3) (T := TX3) (N := 3) hx hb hts hinX3 hown hK.1 hP 0 rfl rfl 0 (by decide) (hts (.fieldLink RX3 10 "ForkStore" "keys" "LForkStore$Keys;") (by decide +kernel)) (fun _ h9 => h9) rfl dX3_rank_8 ?_
    refine lv_lload_n hx hb dX3_rank_11 rfl (lv_at hl 1 rfl) ?_
    refine lv_iload_n hx hb dX3_rank_12 rfl (lv_at hl 2 rfl) ?_
    refine kz_cl (v := kf_cut ww zz) (va_runS (As := [.long ww, .int (nI zz)]) (rest := [.ref hk]) ⟨hx, hb, hml, hown, hts⟩ (c_X3_highestBytes l ww zz (by omega)) (va_cwS 2 hts gX3_rank_X3_highestBytes rfl rfl rfl (by decide +kernel) ⟨Nat.le_of_ble_eq_true rfl, Nat.le_of_ble_eq_true rfl⟩) kz_ps0 rfl rfl hl.1 rfl (lv_room (Nat.le_of_ble_eq_true rfl)) dX3_rank_13 ⟨Nat.zero_le _, Nat.zero_le _⟩).run ?_
    refine lv_iload_n hx hb dX3_rank_16 rfl (lv_at hl 2 rfl) ?_
    have hPc := hP.sub (ws' := [(hk, .inr (1, [.ref aw, .ref az, .ref an, .int (nI nn)])), (aw, .inl (gJ G, 120, .inr (.inl fw))), (az, .inl (gI G, 120, .inl (kz_z zs))), (an, .inl (gI G, 120, .inl fv))]) [1, 2, 3, 4] rfl
    refine kz_ci (v := nI (kf_cb fw zs (kf_cut ww zz) zz nn)) (va_runV (As := [.long (kf_cut ww zz), .int (nI zz)]) (rest := []) ⟨hx, hb, hml, hown, hts⟩ (c_X1_countBefore l G hk aw az an nn fw zs fv (kf_cut ww zz) zz (by omega) hz (by omega)) (cwV 2 hts gX3_rank_X1_countBefore rfl rfl rfl (by decide +kernel) ⟨Nat.le_of_ble_eq_true rfl, Nat.le_of_ble_eq_true rfl⟩) (kz_pv hK hPc (va_recv hK.1 hPc (ci := 1) (q0 := 0) rfl rfl)) rfl rfl hl.1 rfl (lv_room (Nat.le_of_ble_eq_true rfl)) dX3_rank_17 ⟨Nat.zero_le _, Nat.zero_le _⟩).run ?_
    refine lv_goto (tgt := 24) hx hb dX3_rank_20 (by decide) ?_
    exact W.iret (v := nI (kf_cb fw zs (kf_cut ww zz) zz nn)) hx hb hr (fun t ht hW => ⟨_, rfl, (by rw [if_pos kc_1, kf_zn, nI_clamp (by omega)]), ht⟩) (fun _ h => nomatch h) dX3_rank_24

set_option maxHeartbeats 4000000 in
set_option maxRecDepth 100000 in
theorem c_X3_depth (l : Launch) (G : kz_G) (xo hc ra : Nat) (hk aw az an nn : Nat) (fw : Nat → Int64) (zs : Nat → Nat) (fv : Nat → Int32) (ww : Int64) (nv : Int32) (hn : nn ≤ 120) (hz : ∀ j, zs j ≤ 8) : Met l yX3_depth wsX3_depth { frames := 5, cells := 0, slots := 0, locals := 116 } (kz_Pp G [.ref xo, .long ww, .int nv] [(xo, .inr (3, [.ref hk, .ref hc, .ref ra])), (hk, .inr (1, [.ref aw, .ref az, .ref an, .int (nI nn)])), (aw, .inl (gJ G, 120, .inr (.inl fw))), (az, .inl (gI G, 120, .inl (kz_z zs))), (an, .inl (gI G, 120, .inl fv))]) (vp_Si (fun r => r = if 0 ≤ nv ∧ nv ≤ 8 then nI (kf_pop (kf_mk fw zs (kf_cut ww (kf_zn nv)) (kf_zn nv) (nn - 1))) else -1)) 0 0 (fun _ => False) := by
  refine Met.ofW (cc := cX3_depth) (maxL := 4) (ret := (some .int)) (by decide) rfl ?_
  intro p e s m args below meth c s₁ B hml hv
  obtain ⟨rfl, hP, hK⟩ := hv
  have hx := B.exec
  have hb := B.bytes
  have hr := B.returns
  have hts := atoms_spec (ws := wsX3_depth) B.pre
  have hown : s.vm.findClass RX3 = some m.cls := findClass_of_methodNamed B.named
  have hlocks := B.notSynchronized
  have hinX3 : ∀ w ∈ wsX30, w ∈ wsX3_depth := by decide +kernel
  have hP : va_P G.1 vwCl [(xo, .inr (3, [.ref hk, .ref hc, .ref ra])), (hk, .inr (1, [.ref aw, .ref az, .ref an, .int (nI nn)])), (aw, .inl (gJ G, 120, .inr (.inl fw))), (az, .inl (gI G, 120, .inl (kz_z zs))), (an, .inl (gI G, 120, .inl fv))] s.heap := hP
  have hl := lv_entry ([.ref xo, .long ww, .int nv]) (n := 4) (Nat.le_of_ble_eq_true rfl)
  rw [lg_entry_eq]
  generalize (lg_sl ([.ref xo, .long ww, .int nv]) ++ List.replicate (4 - (lg_sl ([.ref xo, .long ww, .int nv])).length) Slot.unset).toArray = ls at hl ⊢
  have hl : lv_has ls 4 [(0, .ref xo), (1, .long ww), (3, .int nv)] := hl
  refine lv_iload_n hx hb dX3_depth_0 rfl (lv_at hl 2 rfl) ?_
  refine kz_ci (v := if 0 ≤ nv ∧ nv ≤ 8 then 1 else 0) (va_runS (As := [.int nv]) (rest := []) ⟨hx, hb, hml, hown, hts⟩ (c_X3_isKeySize l nv) (va_cwS 1 hts gX3_depth_X3_isKeySize rfl rfl rfl (by decide +kernel) ⟨Nat.le_of_ble_eq_true rfl, Nat.le_of_ble_eq_true rfl⟩) kz_ps0 rfl rfl hl.1 rfl (lv_room (Nat.le_of_ble_eq_true rfl)) dX3_depth_1 ⟨Nat.zero_le _, Nat.zero_le _⟩).run ?_
  refine lv_if_eq (tgt := 23) hx hb dX3_depth_4 (by decide) (fun c_1 => ?_) (fun c_1 => ?_)
  · have kc_1 := kf_if0 c_1
    refine lv_iconst (v := (-1)) hx hb dX3_depth_23 (by decide) ?_
    exact W.iret (v := (-1)) hx hb hr (fun t ht hW => ⟨_, rfl, (if_neg kc_1).symm, ht⟩) (fun _ h => nomatch h) dX3_depth_24
  · have kc_1 := kf_if1 c_1
    obtain ⟨zz, hzz, rfl⟩ := kf_ok_nat kc_1
    refine lv_aload_n hx hb dX3_depth_7 rfl (lv_at hl 0 rfl) ?_
    refine va_get (D := G.1) (ci := 3) (v := .ref hk) (C := RX3) (T := TX3) (N := 3) hx hb hts hinX3 hown hK.1 hP 0 rfl rfl 0 (by decide) (hts (.fieldLink RX3 10 "ForkStore" "keys" "LForkStore$Keys;") (by decide +kernel)) (fun _ h9 => h9) rfl dX3_depth_8 ?_
    refine lv_lload_n hx hb dX3_depth_11 rfl (lv_at hl 1 rfl) ?_
    refine lv_iload_n hx hb dX3_depth_12 rfl (lv_at hl 2 rfl) ?_
    refine kz_cl (v := kf_cut ww zz) (va_runS (As := [.long ww, .int (nI zz)]) (rest := [.ref hk]) ⟨hx, hb, hml, hown, hts⟩ (c_X3_highestBytes l ww zz (by omega)) (va_cwS 2 hts gX3_depth_X3_highestBytes rfl rfl rfl (by decide +kernel) ⟨Nat.le_of_ble_eq_true rfl, Nat.le_of_ble_eq_true rfl⟩) kz_ps0 rfl rfl hl.1 rfl (lv_room (Nat.le_of_ble_eq_true rfl)) dX3_depth_13 ⟨Nat.zero_le _, Nat.zero_le _⟩).run ?_
    refine lv_iload_n hx hb dX3_depth_16 rfl (lv_at hl 2 rfl) ?_
    have hPc := hP.sub (ws' := [(hk, .inr (1, [.ref aw, .ref az, .ref an, .int (nI nn)])), (aw, .inl (gJ G, 120, .inr (.inl fw))), (az, .inl (gI G, 120, .inl (kz_z zs))), (an, .inl (gI G, 120, .inl fv))]) [1, 2, 3, 4] rfl
    refine kz_ci (v := nI (kf_pop (kf_mk fw zs (kf_cut ww zz) zz (nn - 1)))) (va_runV (As := [.long (kf_cut ww zz), .int (nI zz)]) (rest := []) ⟨hx, hb, hml, hown, hts⟩ (c_X1_countForksOnTheWayTo l G hk aw az an nn fw zs fv (kf_cut ww zz) zz (by omega) hz (by omega)) (cwV 2 hts gX3_depth_X1_countForksOnTheWayTo rfl rfl rfl (by decide +kernel) ⟨Nat.le_of_ble_eq_true rfl, Nat.le_of_ble_eq_true rfl⟩) (kz_pv hK hPc (va_recv hK.1 hPc (ci := 1) (q0 := 0) rfl rfl)) rfl rfl hl.1 rfl (lv_room (Nat.le_of_ble_eq_true rfl)) dX3_depth_17 ⟨Nat.zero_le _, Nat.zero_le _⟩).run ?_
    refine lv_goto (tgt := 24) hx hb dX3_depth_20 (by decide) ?_
    exact W.iret (v := nI (kf_pop (kf_mk fw zs (kf_cut ww zz) zz (nn - 1)))) hx hb hr (fun t ht hW => ⟨_, rfl, (by rw [if_pos kc_1, kf_zn, nI_clamp (by omega)]), ht⟩) (fun _ h => nomatch h) dX3_depth_24

set_option maxHeartbeats 4000000 in
set_option maxRecDepth 100000 in
theorem c_X3_forks (l : Launch) (G : kz_G) (xo hc ra ab : Nat) (hk aw az an nn : Nat) (fw : Nat → Int64) (zs : Nat → Nat) (fv : Nat → Int32) (sv : Int32) (sz : Nat) (hn : nn ≤ 120) (hz : ∀ j, zs j ≤ 8) : Met l yX3_forks wsX3_forks { frames := 5, cells := 0, slots := 0, locals := 115 } (kz_Pm G [.ref xo, .int sv] [(xo, .inr (3, [.ref hk, .ref hc, .ref ra])), (hc, .inr (0, [.ref ab])), (ab, .inl (gI G, 8, .inl (kz_z kf_z0))), (hk, .inr (1, [.ref aw, .ref az, .ref an, .int (nI nn)])), (aw, .inl (gJ G, 120, .inr (.inl fw))), (az, .inl (gI G, 120, .inl (kz_z zs))), (an, .inl (gI G, 120, .inl fv))] sz) (kz_Qi G (fun r w => r = (if 0 ≤ sv ∧ sv ≤ 3 then nI (kf_forks fw zs (kf_zn sv) nn) else -1) ∧ w = [(xo, .inr (3, [.ref hk, .ref hc, .ref ra])), (hc, .inr (0, [.ref ab])), (ab, .inl (gI G, 8, .inl (kz_z kf_z0))), (hk, .inr (1, [.ref aw, .ref az, .ref an, .int (nI nn)])), (aw, .inl (gJ G, 120, .inr (.inl fw))), (az, .inl (gI G, 120, .inl (kz_z zs))), (an, .inl (gI G, 120, .inl fv))]) (va_A [(xo, .inr (3, [.ref hk, .ref hc, .ref ra])), (hc, .inr (0, [.ref ab])), (ab, .inl (gI G, 8, .inl (kz_z kf_z0))), (hk, .inr (1, [.ref aw, .ref az, .ref an, .int (nI nn)])), (aw, .inl (gJ G, 120, .inr (.inl fw))), (az, .inl (gI G, 120, .inl (kz_z zs))), (an, .inl (gI G, 120, .inl fv))] sz)) 0 0 (va_A [(xo, .inr (3, [.ref hk, .ref hc, .ref ra])), (hc, .inr (0, [.ref ab])), (ab, .inl (gI G, 8, .inl (kz_z kf_z0))), (hk, .inr (1, [.ref aw, .ref az, .ref an, .int (nI nn)])), (aw, .inl (gJ G, 120, .inr (.inl fw))), (az, .inl (gI G, 120, .inl (kz_z zs))), (an, .inl (gI G, 120, .inl fv))] sz) := by
  refine Met.ofW (cc := cX3_forks) (maxL := 2) (ret := (some .int)) (by decide) rfl ?_
  intro p e s m args below meth c s₁ B hml hv
  obtain ⟨rfl, hsz, hP, hK, hD0⟩ := hv
  have hx := B.exec
  have hb := B.bytes
  have hr := B.returns
  have hts := atoms_spec (ws := wsX3_forks) B.pre
  have hown : s.vm.findClass RX3 = some m.cls := findClass_of_methodNamed B.named
  have hlocks := B.notSynchronized
  have hinX3 : ∀ w ∈ wsX30, w ∈ wsX3_forks := by decide +kernel
  subst hsz
  have hD := hD0.self (sz := s.heap.size)
  generalize hAe : va_A [(xo, .inr (3, [.ref hk, .ref hc, .ref ra])), (hc, .inr (0, [.ref ab])), (ab, .inl (gI G, 8, .inl (kz_z kf_z0))), (hk, .inr (1, [.ref aw, .ref az, .ref an, .int (nI nn)])), (aw, .inl (gJ G, 120, .inr (.inl fw))), (az, .inl (gI G, 120, .inl (kz_z zs))), (an, .inl (gI G, 120, .inl fv))] s.heap.size = A at hD ⊢
  have hA : ∀ q : Nat, s.heap.size ≤ q → A q := fun q h => by rw [← hAe]; exact Or.inr h
  have hS : va_S A s.heap s.heap [] := va_S.rf
  have hP : va_P G.1 vwCl [(xo, .inr (3, [.ref hk, .ref hc, .ref ra])), (hc, .inr (0, [.ref ab])), (ab, .inl (gI G, 8, .inl (kz_z kf_z0))), (hk, .inr (1, [.ref aw, .ref az, .ref an, .int (nI nn)])), (aw, .inl (gJ G, 120, .inr (.inl fw))), (az, .inl (gI G, 120, .inl (kz_z zs))), (an, .inl (gI G, 120, .inl fv))] s.heap := hP
  have hl := lv_entry ([.ref xo, .int sv]) (n := 2) (Nat.le_of_ble_eq_true rfl)
  rw [lg_entry_eq]
  generalize (lg_sl ([.ref xo, .int sv]) ++ List.replicate (2 - (lg_sl ([.ref xo, .int sv])).length) Slot.unset).toArray = ls at hl ⊢
  have hl : lv_has ls 2 [(0, .ref xo), (1, .int sv)] := hl
  refine lv_iload_n hx hb dX3_forks_0 rfl (lv_at hl 1 rfl) ?_
  refine lv_if_lt (tgt := 9) hx hb dX3_forks_1 (by decide) (fun c_1 => ?_) (fun c_1 => ?_)
  · refine lv_iconst (v := (-1)) hx hb dX3_forks_9 (by decide) ?_
    exact W.iret (v := (-1)) hx hb hr (fun t ht hW => ⟨⟨_, ([(xo, .inr (3, [.ref hk, .ref hc, .ref ra])), (hc, .inr (0, [.ref ab])), (ab, .inl (gI G, 8, .inl (kz_z kf_z0))), (hk, .inr (1, [.ref aw, .ref az, .ref an, .int (nI nn)])), (aw, .inl (gJ G, 120, .inr (.inl fw))), (az, .inl (gI G, 120, .inl (kz_z zs))), (an, .inl (gI G, 120, .inl fv))] : va_W), rfl, ⟨(if_neg (fun h => absurd c_1 (Int32.not_lt.mpr h.1))).symm, rfl⟩, by rw [← ht] at hP; exact hP⟩, hS.F ht⟩) hS.2.2 dX3_forks_10
  · refine lv_iload_n hx hb dX3_forks_4 rfl (lv_at hl 1 rfl) ?_
    refine lv_iconst (v := 3) hx hb dX3_forks_5 (by decide) ?_
    refine lv_icmp_le (tgt := 11) hx hb dX3_forks_6 (by decide) (fun c_2 => ?_) (fun c_2 => ?_)
    · obtain ⟨sq, hsq, rfl⟩ := nI_of2 (x := sv) (M := 3) (n := 3) rfl c_1 c_2
      refine lv_aload_n hx hb dX3_forks_11 rfl (lv_at hl 0 rfl) ?_
      refine va_get (D := G.1) (ci := 3) (v := .ref hc) (C := RX3) (T := TX3) (N := 3) hx hb hts hinX3 hown hK.1 hP 0 rfl rfl 1 (by decide) (hts (.fieldLink RX3 19 "ForkStore" "counter" "LForkStore$ForkCounter;") (by decide +kernel)) (fun _ h9 => h9) rfl dX3_forks_12 ?_
      refine lv_aload_n hx hb dX3_forks_15 rfl (lv_at hl 0 rfl) ?_
      refine va_get (D := G.1) (ci := 3) (v := .ref hk) (C := RX3) (T := TX3) (N := 3) hx hb hts hinX3 hown hK.1 hP 0 rfl rfl 0 (by decide) (hts (.fieldLink RX3 10 "ForkStore" "keys" "LForkStore$Keys;") (by decide +kernel)) (fun _ h9 => h9) rfl dX3_forks_16 ?_
      refine lv_iload_n hx hb dX3_forks_19 rfl (lv_at hl 1 rfl) ?_
      have hPc := hP.sub (ws' := [(hc, .inr (0, [.ref ab])), (ab, .inl (gI G, 8, .inl (kz_z kf_z0))), (hk, .inr (1, [.ref aw, .ref az, .ref an, .int (nI nn)])), (aw, .inl (gJ G, 120, .inr (.inl fw))), (az, .inl (gI G, 120, .inl (kz_z zs))), (an, .inl (gI G, 120, .inl fv))]) [1, 2, 3, 4, 5, 6] rfl
      have hDc := hD.sub (ws' := [(hc, .inr (0, [.ref ab])), (ab, .inl (gI G, 8, .inl (kz_z kf_z0))), (hk, .inr (1, [.ref aw, .ref az, .ref an, .int (nI nn)])), (aw, .inl (gJ G, 120, .inr (.inl fw))), (az, .inl (gI G, 120, .inl (kz_z zs))), (an, .inl (gI G, 120, .inl fv))]) [1, 2, 3, 4, 5, 6] (by decide) rfl
      have hFc := va_free (wc := [(hc, .inr (0, [.ref ab])), (ab, .inl (gI G, 8, .inl (kz_z kf_z0))), (hk, .inr (1, [.ref aw, .ref az, .ref an, .int (nI nn)])), (aw, .inl (gJ G, 120, .inr (.inl fw))), (az, .inl (gI G, 120, .inl (kz_z zs))), (an, .inl (gI G, 120, .inl fv))]) hD hS hA [1, 2, 3, 4, 5, 6] rfl
      refine va_calli (va_runV (As := [.ref hk, .int (nI sq)]) (rest := []) ⟨hx, hb, hml, hown, hts⟩ (c_X0_countOfSize l G hc ab hk aw az an nn fw zs fv sq _ (by omega) hz (by omega)) (cwV 2 hts gX3_forks_X0_countOfSize rfl rfl rfl (by decide +kernel) ⟨Nat.le_of_ble_eq_true rfl, Nat.le_of_ble_eq_true rfl⟩) (kz_pvm hK hPc hDc (va_recv hK.1 hPc (ci := 0) (q0 := 0) rfl rfl)) rfl rfl hl.1 rfl (lv_room (Nat.le_of_ble_eq_true rfl)) dX3_forks_20 ⟨Nat.zero_le _, Nat.zero_le _⟩) hS (fun q _ h => hFc q h) hFc (fun r_3 u t H locs ht hvm hw hB hqz9 hqk9 hS => ?_)
      obtain ⟨hr9, hw⟩ : r_3 = nI (kf_forks fw zs sq nn) ∧ u = [(hc, .inr (0, [.ref ab])), (ab, .inl (gI G, 8, .inl (kz_z kf_z0))), (hk, .inr (1, [.ref aw, .ref az, .ref an, .int (nI nn)])), (aw, .inl (gJ G, 120, .inr (.inl fw))), (az, .inl (gI G, 120, .inl (kz_z zs))), (an, .inl (gI G, 120, .inl fv))] := hw
      have hB : va_P G.1 vwCl u H := by rw [← ht]; exact hB
      rw [hw] at hB
      obtain ⟨hP, hD⟩ := kz_join (wc := [(hc, .inr (0, [.ref ab])), (ab, .inl (gI G, 8, .inl (kz_z kf_z0))), (hk, .inr (1, [.ref aw, .ref az, .ref an, .int (nI nn)])), (aw, .inl (gJ G, 120, .inr (.inl fw))), (az, .inl (gI G, 120, .inl (kz_z zs))), (an, .inl (gI G, 120, .inl fv))]) (w1 := [(hc, .inr (0, [.ref ab])), (ab, .inl (gI G, 8, .inl (kz_z kf_z0))), (hk, .inr (1, [.ref aw, .ref az, .ref an, .int (nI nn)])), (aw, .inl (gJ G, 120, .inr (.inl fw))), (az, .inl (gI G, 120, .inl (kz_z zs))), (an, .inl (gI G, 120, .inl fv))]) hP hD [1, 2, 3, 4, 5, 6] rfl (by decide) rfl hqk9 hB
      have hP : va_P G.1 vwCl [(xo, .inr (3, [.ref hk, .ref hc, .ref ra])), (hc, .inr (0, [.ref ab])), (ab, .inl (gI G, 8, .inl (kz_z kf_z0))), (hk, .inr (1, [.ref aw, .ref az, .ref an, .int (nI nn)])), (aw, .inl (gJ G, 120, .inr (.inl fw))), (az, .inl (gI G, 120, .inl (kz_z zs))), (an, .inl (gI G, 120, .inl fv))] H := hP
      have hD : va_D A [(xo, .inr (3, [.ref hk, .ref hc, .ref ra])), (hc, .inr (0, [.ref ab])), (ab, .inl (gI G, 8, .inl (kz_z kf_z0))), (hk, .inr (1, [.ref aw, .ref az, .ref an, .int (nI nn)])), (aw, .inl (gJ G, 120, .inr (.inl fw))), (az, .inl (gI G, 120, .inl (kz_z zs))), (an, .inl (gI G, 120, .inl fv))] := hD
      refine kz_asi (y := nI (kf_forks fw zs sq nn)) hr9 ?_
      exact W.iret (v := nI (kf_forks fw zs sq nn)) hx hb hr (fun t ht hW => ⟨⟨_, ([(xo, .inr (3, [.ref hk, .ref hc, .ref ra])), (hc, .inr (0, [.ref ab])), (ab, .inl (gI G, 8, .inl (kz_z kf_z0))), (hk, .inr (1, [.ref aw, .ref az, .ref an, .int (nI nn)])), (aw, .inl (gJ G, 120, .inr (.inl fw))), (az, .inl (gI G, 120, .inl (kz_z zs))), (an, .inl (gI G, 120, .inl fv))] : va_W), rfl, ⟨by rw [if_pos ⟨Int32.not_lt.mp c_1, c_2⟩, kf_zn, nI_clamp (by omega)], rfl⟩, by rw [← ht] at hP; exact hP⟩, hS.F ht⟩) hS.2.2 dX3_forks_23
    · refine lv_iconst (v := (-1)) hx hb dX3_forks_9 (by decide) ?_
      exact W.iret (v := (-1)) hx hb hr (fun t ht hW => ⟨⟨_, ([(xo, .inr (3, [.ref hk, .ref hc, .ref ra])), (hc, .inr (0, [.ref ab])), (ab, .inl (gI G, 8, .inl (kz_z kf_z0))), (hk, .inr (1, [.ref aw, .ref az, .ref an, .int (nI nn)])), (aw, .inl (gJ G, 120, .inr (.inl fw))), (az, .inl (gI G, 120, .inl (kz_z zs))), (an, .inl (gI G, 120, .inl fv))] : va_W), rfl, ⟨(if_neg (fun h => c_2 h.2)).symm, rfl⟩, by rw [← ht] at hP; exact hP⟩, hS.F ht⟩) hS.2.2 dX3_forks_10

set_option maxHeartbeats 4000000 in
set_option maxRecDepth 100000 in
theorem c_X3_remove (l : Launch) (G : kz_G) (xo hc ra : Nat) (hk aw az an nn : Nat) (fw : Nat → Int64) (zs : Nat → Nat) (fv : Nat → Int32) (ww : Int64) (nv : Int32) (sz : Nat) (hn : nn ≤ 120) (hz : ∀ j, zs j ≤ 8) : Met l yX3_remove wsX3_remove { frames := 3, cells := 0, slots := 0, locals := 71 } (kz_Pm G [.ref xo, .long ww, .int nv] [(xo, .inr (3, [.ref hk, .ref hc, .ref ra])), (hk, .inr (1, [.ref aw, .ref az, .ref an, .int (nI nn)])), (aw, .inl (gJ G, 120, .inr (.inl fw))), (az, .inl (gI G, 120, .inl (kz_z zs))), (an, .inl (gI G, 120, .inl fv))] sz) (kz_Qi G (fun r w => if (0 ≤ nv ∧ nv ≤ 8) ∧ kf_st fw zs (kf_cut ww (kf_zn nv)) (kf_zn nv) nn then r = 1 ∧ w = [(xo, .inr (3, [.ref hk, .ref hc, .ref ra])), (hk, .inr (1, [.ref aw, .ref az, .ref an, .int (nI (nn - 1))])), (aw, .inl (gJ G, 120, .inr (.inl (kf_dn fw (kf_cb fw zs (kf_cut ww (kf_zn nv)) (kf_zn nv) nn) (nn - 1))))), (az, .inl (gI G, 120, .inl (kz_z (kf_dn zs (kf_cb fw zs (kf_cut ww (kf_zn nv)) (kf_zn nv) nn) (nn - 1))))), (an, .inl (gI G, 120, .inl (kf_dn fv (kf_cb fw zs (kf_cut ww (kf_zn nv)) (kf_zn nv) nn) (nn - 1))))] else r = 0 ∧ w = [(xo, .inr (3, [.ref hk, .ref hc, .ref ra])), (hk, .inr (1, [.ref aw, .ref az, .ref an, .int (nI nn)])), (aw, .inl (gJ G, 120, .inr (.inl fw))), (az, .inl (gI G, 120, .inl (kz_z zs))), (an, .inl (gI G, 120, .inl fv))]) (va_A [(xo, .inr (3, [.ref hk, .ref hc, .ref ra])), (hk, .inr (1, [.ref aw, .ref az, .ref an, .int (nI nn)])), (aw, .inl (gJ G, 120, .inr (.inl fw))), (az, .inl (gI G, 120, .inl (kz_z zs))), (an, .inl (gI G, 120, .inl fv))] sz)) 0 0 (va_A [(xo, .inr (3, [.ref hk, .ref hc, .ref ra])), (hk, .inr (1, [.ref aw, .ref az, .ref an, .int (nI nn)])), (aw, .inl (gJ G, 120, .inr (.inl fw))), (az, .inl (gI G, 120, .inl (kz_z zs))), (an, .inl (gI G, 120, .inl fv))] sz) := by
  refine Met.ofW (cc := cX3_remove) (maxL := 7) (ret := (some .boolean)) (by decide) rfl ?_
  intro p e s m args below meth c s₁ B hml hv
  obtain ⟨rfl, hsz, hP, hK, hD0⟩ := hv
  have hx := B.exec
  have hb := B.bytes
  have hr := B.returns
  have hts := atoms_spec (ws := wsX3_remove) B.pre
  have hown : s.vm.findClass RX3 = some m.cls := findClass_of_methodNamed B.named
  have hlocks := B.notSynchronized
  have hinX3 : ∀ w ∈ wsX30, w ∈ wsX3_remove := by decide +kernel
  subst hsz
  have hD := hD0.self (sz := s.heap.size)
  generalize hAe : va_A [(xo, .inr (3, [.ref hk, .ref hc, .ref ra])), (hk, .inr (1, [.ref aw, .ref az, .ref an, .int (nI nn)])), (aw, .inl (gJ G, 120, .inr (.inl fw))), (az, .inl (gI G, 120, .inl (kz_z zs))), (an, .inl (gI G, 120, .inl fv))] s.heap.size = A at hD ⊢
  have hA : ∀ q : Nat, s.heap.size ≤ q → A q := fun q h => by rw [← hAe]; exact Or.inr h
  have hS : va_S A s.heap s.heap [] := va_S.rf
  have hP : va_P G.1 vwCl [(xo, .inr (3, [.ref hk, .ref hc, .ref ra])), (hk, .inr (1, [.ref aw, .ref az, .ref an, .int (nI nn)])), (aw, .inl (gJ G, 120, .inr (.inl fw))), (az, .inl (gI G, 120, .inl (kz_z zs))), (an, .inl (gI G, 120, .inl fv))] s.heap := hP
  have hl := lv_entry ([.ref xo, .long ww, .int nv]) (n := 7) (Nat.le_of_ble_eq_true rfl)
  rw [lg_entry_eq]
  generalize (lg_sl ([.ref xo, .long ww, .int nv]) ++ List.replicate (7 - (lg_sl ([.ref xo, .long ww, .int nv])).length) Slot.unset).toArray = ls at hl ⊢
  have hl : lv_has ls 7 [(0, .ref xo), (1, .long ww), (3, .int nv)] := hl
  refine lv_iload_n hx hb dX3_remove_0 rfl (lv_at hl 2 rfl) ?_
  refine kz_ci (v := if 0 ≤ nv ∧ nv ≤ 8 then 1 else 0) (va_runS (As := [.int nv]) (rest := []) ⟨hx, hb, hml, hown, hts⟩ (c_X3_isKeySize l nv) (va_cwS 1 hts gX3_remove_X3_isKeySize rfl rfl rfl (by decide +kernel) ⟨Nat.le_of_ble_eq_true rfl, Nat.le_of_ble_eq_true rfl⟩) kz_ps0 rfl rfl hl.1 rfl (lv_room (Nat.le_of_ble_eq_true rfl)) dX3_remove_1 ⟨Nat.zero_le _, Nat.zero_le _⟩).run ?_
  refine lv_if_ne (tgt := 9) hx hb dX3_remove_4 (by decide) (fun c_1 => ?_) (fun c_1 => ?_)
  · have kc_1 := kf_if1 c_1
    obtain ⟨zz, hzz, rfl⟩ := kf_ok_nat kc_1
    refine lv_lload_n hx hb dX3_remove_9 rfl (lv_at hl 1 rfl) ?_
    refine lv_iload_n hx hb dX3_remove_10 rfl (lv_at hl 2 rfl) ?_
    refine kz_cl (v := kf_cut ww zz) (va_runS (As := [.long ww, .int (nI zz)]) (rest := []) ⟨hx, hb, hml, hown, hts⟩ (c_X3_highestBytes l ww zz (by omega)) (va_cwS 2 hts gX3_remove_X3_highestBytes rfl rfl rfl (by decide +kernel) ⟨Nat.le_of_ble_eq_true rfl, Nat.le_of_ble_eq_true rfl⟩) kz_ps0 rfl rfl hl.1 rfl (lv_room (Nat.le_of_ble_eq_true rfl)) dX3_remove_11 ⟨Nat.zero_le _, Nat.zero_le _⟩).run ?_
    refine lv_lstore (lv' := [(4, .long (kf_cut ww zz)), (0, .ref xo), (1, .long ww), (3, .int (nI zz))]) hx hb dX3_remove_14 hl (by decide) rfl (fun ls hl => ?_)
    refine lv_aload_n hx hb dX3_remove_16 rfl (lv_at hl 1 rfl) ?_
    refine va_get (D := G.1) (ci := 3) (v := .ref hk) (C := RX3) (T := TX3) (N := 3) hx hb hts hinX3 hown hK.1 hP 0 rfl rfl 0 (by decide) (hts (.fieldLink RX3 10 "ForkStore" "keys" "LForkStore$Keys;") (by decide +kernel)) (fun _ h9 => h9) rfl dX3_remove_17 ?_
    refine lv_lload hx hb dX3_remove_20 (lv_at hl 0 rfl) ?_
    refine lv_iload_n hx hb dX3_remove_22 rfl (lv_at hl 3 rfl) ?_
    have hPc := hP.sub (ws' := [(hk, .inr (1, [.ref aw, .ref az, .ref an, .int (nI nn)])), (aw, .inl (gJ G, 120, .inr (.inl fw))), (az, .inl (gI G, 120, .inl (kz_z zs))), (an, .inl (gI G, 120, .inl fv))]) [1, 2, 3, 4] rfl
    refine kz_ci (v := nI (kf_cb fw zs (kf_cut ww zz) zz nn)) (va_runV (As := [.long (kf_cut ww zz), .int (nI zz)]) (rest := []) ⟨hx, hb, hml, hown, hts⟩ (c_X1_countBefore l G hk aw az an nn fw zs fv (kf_cut ww zz) zz (by omega) hz (by omega)) (cwV 2 hts gX3_remove_X1_countBefore rfl rfl rfl (by decide +kernel) ⟨Nat.le_of_ble_eq_true rfl, Nat.le_of_ble_eq_true rfl⟩) (kz_pv hK hPc (va_recv hK.1 hPc (ci := 1) (q0 := 0) rfl rfl)) rfl rfl hl.1 rfl (lv_room (Nat.le_of_ble_eq_true rfl)) dX3_remove_23 ⟨Nat.zero_le _, Nat.zero_le _⟩).run ?_
    refine lv_istore (lv' := [(6, .int (nI (kf_cb fw zs (kf_cut ww zz) zz nn))), (4, .long (kf_cut ww zz)), (0, .ref xo), (1, .long ww), (3, .int (nI zz))]) hx hb dX3_remove_26 hl (by decide) rfl (fun ls hl => ?_)
    have hcb := kf_cb_le fw zs (kf_cut ww zz) zz nn
    refine lv_aload_n hx hb dX3_remove_28 rfl (lv_at hl 2 rfl) ?_
    refine va_get (D := G.1) (ci := 3) (v := .ref hk) (C := RX3) (T := TX3) (N := 3) hx hb hts hinX3 hown hK.1 hP 0 rfl rfl 0 (by decide) (hts (.fieldLink RX3 10 "ForkStore" "keys" "LForkStore$Keys;") (by decide +kernel)) (fun _ h9 => h9) rfl dX3_remove_29 ?_
    refine lv_iload hx hb dX3_remove_32 (lv_at hl 0 rfl) ?_
    refine lv_lload hx hb dX3_remove_34 (lv_at hl 1 rfl) ?_
    refine lv_iload_n hx hb dX3_remove_36 rfl (lv_at hl 4 rfl) ?_
    have hPc := hP.sub (ws' := [(hk, .inr (1, [.ref aw, .ref az, .ref an, .int (nI nn)])), (aw, .inl (gJ G, 120, .inr (.inl fw))), (az, .inl (gI G, 120, .inl (kz_z zs))), (an, .inl (gI G, 120, .inl fv))]) [1, 2, 3, 4] rfl
    refine kz_ci (v := if (kf_cb fw zs (kf_cut ww zz) zz nn) < nn ∧ fw (kf_cb fw zs (kf_cut ww zz) zz nn) = kf_cut ww zz ∧ zs (kf_cb fw zs (kf_cut ww zz) zz nn) = zz then 1 else 0) (va_runV (As := [.int (nI (kf_cb fw zs (kf_cut ww zz) zz nn)), .long (kf_cut ww zz), .int (nI zz)]) (rest := []) ⟨hx, hb, hml, hown, hts⟩ (c_X1_standsAt l G hk aw az an nn fw zs fv (kf_cb fw zs (kf_cut ww zz) zz nn) (kf_cut ww zz) zz (by omega) hz (by omega) (by omega)) (cwV 3 hts gX3_remove_X1_standsAt rfl rfl rfl (by decide +kernel) ⟨Nat.le_of_ble_eq_true rfl, Nat.le_of_ble_eq_true rfl⟩) (kz_pv hK hPc (va_recv hK.1 hPc (ci := 1) (q0 := 0) rfl rfl)) rfl rfl hl.1 rfl (lv_room (Nat.le_of_ble_eq_true rfl)) dX3_remove_37 ⟨Nat.zero_le _, Nat.zero_le _⟩).run ?_
    refine lv_if_ne (tgt := 45) hx hb dX3_remove_40 (by decide) (fun c_2 => ?_) (fun c_2 => ?_)
    · have kc_2 := kf_if1 c_2
      refine lv_aload_n hx hb dX3_remove_45 rfl (lv_at hl 2 rfl) ?_
      refine va_get (D := G.1) (ci := 3) (v := .ref hk) (C := RX3) (T := TX3) (N := 3) hx hb hts hinX3 hown hK.1 hP 0 rfl rfl 0 (by decide) (hts (.fieldLink RX3 10 "ForkStore" "keys" "LForkStore$Keys;") (by decide +kernel)) (fun _ h9 => h9) rfl dX3_remove_46 ?_
      refine lv_iload hx hb dX3_remove_49 (lv_at hl 0 rfl) ?_
      have hPc := hP.sub (ws' := [(hk, .inr (1, [.ref aw, .ref az, .ref an, .int (nI nn)])), (aw, .inl (gJ G, 120, .inr (.inl fw))), (az, .inl (gI G, 120, .inl (kz_z zs))), (an, .inl (gI G, 120, .inl fv))]) [1, 2, 3, 4] rfl
      have hDc := hD.sub (ws' := [(hk, .inr (1, [.ref aw, .ref az, .ref an, .int (nI nn)])), (aw, .inl (gJ G, 120, .inr (.inl fw))), (az, .inl (gI G, 120, .inl (kz_z zs))), (an, .inl (gI G, 120, .inl fv))]) [1, 2, 3, 4] (by decide) rfl
      have hFc := va_free (wc := [(hk, .inr (1, [.ref aw, .ref az, .ref an, .int (nI nn)])), (aw, .inl (gJ G, 120, .inr (.inl fw))), (az, .inl (gI G, 120, .inl (kz_z zs))), (an, .inl (gI G, 120, .inl fv))]) hD hS hA [1, 2, 3, 4] rfl
      refine va_callv (va_runV (As := [.int (nI (kf_cb fw zs (kf_cut ww zz) zz nn))]) (rest := []) ⟨hx, hb, hml, hown, hts⟩ (c_X1_takeOut l G hk aw az an nn fw (kz_z zs) fv (kf_cb fw zs (kf_cut ww zz) zz nn) _ (by omega) kc_2.1) (cwV 1 hts gX3_remove_X1_takeOut rfl rfl rfl (by decide +kernel) ⟨Nat.le_of_ble_eq_true rfl, Nat.le_of_ble_eq_true rfl⟩) (kz_pvm hK hPc hDc (va_recv hK.1 hPc (ci := 1) (q0 := 0) rfl rfl)) rfl rfl hl.1 rfl (lv_room (Nat.le_of_ble_eq_true rfl)) dX3_remove_51 ⟨Nat.zero_le _, Nat.zero_le _⟩) hS (fun q _ h => hFc q h) hFc (fun u t H locs ht hvm hw hB hqz9 hqk9 hS => ?_)
      have hw : u = [(hk, .inr (1, [.ref aw, .ref az, .ref an, .int (nI (nn - 1))])), (aw, .inl (gJ G, 120, .inr (.inl (kf_dn fw (kf_cb fw zs (kf_cut ww zz) zz nn) (nn - 1))))), (az, .inl (gI G, 120, .inl (kf_dn (kz_z zs) (kf_cb fw zs (kf_cut ww zz) zz nn) (nn - 1)))), (an, .inl (gI G, 120, .inl (kf_dn fv (kf_cb fw zs (kf_cut ww zz) zz nn) (nn - 1))))] := hw
      have hB : va_P G.1 vwCl u H := by rw [← ht]; exact hB
      rw [hw] at hB
      obtain ⟨hP, hD⟩ := kz_join (wc := [(hk, .inr (1, [.ref aw, .ref az, .ref an, .int (nI nn)])), (aw, .inl (gJ G, 120, .inr (.inl fw))), (az, .inl (gI G, 120, .inl (kz_z zs))), (an, .inl (gI G, 120, .inl fv))]) (w1 := [(hk, .inr (1, [.ref aw, .ref az, .ref an, .int (nI (nn - 1))])), (aw, .inl (gJ G, 120, .inr (.inl (kf_dn fw (kf_cb fw zs (kf_cut ww zz) zz nn) (nn - 1))))), (az, .inl (gI G, 120, .inl (kf_dn (kz_z zs) (kf_cb fw zs (kf_cut ww zz) zz nn) (nn - 1)))), (an, .inl (gI G, 120, .inl (kf_dn fv (kf_cb fw zs (kf_cut ww zz) zz nn) (nn - 1))))]) hP hD [1, 2, 3, 4] rfl (by decide) rfl hqk9 hB
      have hP : va_P G.1 vwCl [(xo, .inr (3, [.ref hk, .ref hc, .ref ra])), (hk, .inr (1, [.ref aw, .ref az, .ref an, .int (nI (nn - 1))])), (aw, .inl (gJ G, 120, .inr (.inl (kf_dn fw (kf_cb fw zs (kf_cut ww zz) zz nn) (nn - 1))))), (az, .inl (gI G, 120, .inl (kf_dn (kz_z zs) (kf_cb fw zs (kf_cut ww zz) zz nn) (nn - 1)))), (an, .inl (gI G, 120, .inl (kf_dn fv (kf_cb fw zs (kf_cut ww zz) zz nn) (nn - 1))))] H := hP
      have hD : va_D A [(xo, .inr (3, [.ref hk, .ref hc, .ref ra])), (hk, .inr (1, [.ref aw, .ref az, .ref an, .int (nI (nn - 1))])), (aw, .inl (gJ G, 120, .inr (.inl (kf_dn fw (kf_cb fw zs (kf_cut ww zz) zz nn) (nn - 1))))), (az, .inl (gI G, 120, .inl (kf_dn (kz_z zs) (kf_cb fw zs (kf_cut ww zz) zz nn) (nn - 1)))), (an, .inl (gI G, 120, .inl (kf_dn fv (kf_cb fw zs (kf_cut ww zz) zz nn) (nn - 1))))] := hD
      rw [kf_dn_z] at hP hD
      have hP : va_P G.1 vwCl [(xo, .inr (3, [.ref hk, .ref hc, .ref ra])), (hk, .inr (1, [.ref aw, .ref az, .ref an, .int (nI (nn - 1))])), (aw, .inl (gJ G, 120, .inr (.inl (kf_dn fw (kf_cb fw zs (kf_cut ww zz) zz nn) (nn - 1))))), (az, .inl (gI G, 120, .inl (kz_z (kf_dn zs (kf_cb fw zs (kf_cut ww zz) zz nn) (nn - 1))))), (an, .inl (gI G, 120, .inl (kf_dn fv (kf_cb fw zs (kf_cut ww zz) zz nn) (nn - 1))))] H := hP
      have hD : va_D A [(xo, .inr (3, [.ref hk, .ref hc, .ref ra])), (hk, .inr (1, [.ref aw, .ref az, .ref an, .int (nI (nn - 1))])), (aw, .inl (gJ G, 120, .inr (.inl (kf_dn fw (kf_cb fw zs (kf_cut ww zz) zz nn) (nn - 1))))), (az, .inl (gI G, 120, .inl (kz_z (kf_dn zs (kf_cb fw zs (kf_cut ww zz) zz nn) (nn - 1))))), (an, .inl (gI G, 120, .inl (kf_dn fv (kf_cb fw zs (kf_cut ww zz) zz nn) (nn - 1))))] := hD
      refine lv_iconst (v := 1) hx hb dX3_remove_54 (by decide) ?_
      exact W.zret (v := 1) hx hb hr rfl (fun t ht hW => ⟨⟨_, ([(xo, .inr (3, [.ref hk, .ref hc, .ref ra])), (hk, .inr (1, [.ref aw, .ref az, .ref an, .int (nI (nn - 1))])), (aw, .inl (gJ G, 120, .inr (.inl (kf_dn fw (kf_cb fw zs (kf_cut ww zz) zz nn) (nn - 1))))), (az, .inl (gI G, 120, .inl (kz_z (kf_dn zs (kf_cb fw zs (kf_cut ww zz) zz nn) (nn - 1))))), (an, .inl (gI G, 120, .inl (kf_dn fv (kf_cb fw zs (kf_cut ww zz) zz nn) (nn - 1))))] : va_W), rfl, (by show if _ then _ else _; rw [show kf_zn (nI zz) = zz from nI_clamp (by omega), if_pos ⟨kc_1, kc_2⟩]; exact ⟨rfl, rfl⟩), by rw [← ht] at hP; exact hP⟩, hS.F ht⟩) hS.2.2 dX3_remove_55
    · have kc_2 := kf_if0 c_2
      refine lv_iconst (v := 0) hx hb dX3_remove_43 (by decide) ?_
      exact W.zret (v := 0) hx hb hr rfl (fun t ht hW => ⟨⟨_, ([(xo, .inr (3, [.ref hk, .ref hc, .ref ra])), (hk, .inr (1, [.ref aw, .ref az, .ref an, .int (nI nn)])), (aw, .inl (gJ G, 120, .inr (.inl fw))), (az, .inl (gI G, 120, .inl (kz_z zs))), (an, .inl (gI G, 120, .inl fv))] : va_W), rfl, (by show if _ then _ else _; rw [show kf_zn (nI zz) = zz from nI_clamp (by omega), if_neg (fun h => kc_2 h.2)]; exact ⟨rfl, rfl⟩), by rw [← ht] at hP; exact hP⟩, hS.F ht⟩) hS.2.2 dX3_remove_44
  · have kc_1 := kf_if0 c_1
    refine lv_iconst (v := 0) hx hb dX3_remove_7 (by decide) ?_
    exact W.zret (v := 0) hx hb hr rfl (fun t ht hW => ⟨⟨_, ([(xo, .inr (3, [.ref hk, .ref hc, .ref ra])), (hk, .inr (1, [.ref aw, .ref az, .ref an, .int (nI nn)])), (aw, .inl (gJ G, 120, .inr (.inl fw))), (az, .inl (gI G, 120, .inl (kz_z zs))), (an, .inl (gI G, 120, .inl fv))] : va_W), rfl, (by show if _ then _ else _; rw [if_neg (fun h => kc_1 h.1)]; exact ⟨rfl, rfl⟩), by rw [← ht] at hP; exact hP⟩, hS.F ht⟩) hS.2.2 dX3_remove_8
end
section
/-- the row of readers -/
def kf_ra (a b c : Nat) : Nat → Option Nat := va_up (va_up (va_up (fun _ => none) 0 (some a)) 1 (some b)) 2 (some c)
/-- readerOrNull -/
def kf_rd (a b c : Nat) (rr : Int32) : Option Nat := if rr = 0 then some a else if rr = 1 then some b else if rr = 2 then some c else none
abbrev kf_isr (rr : Int32) : Prop := rr = 0 ∨ rr = 1 ∨ rr = 2
theorem kf_rd_c (a b c : Nat) (rr : Int32) : (rr = 0 ∧ kf_rd a b c rr = some a) ∨ (rr = 1 ∧ kf_rd a b c rr = some b) ∨ (rr = 2 ∧ kf_rd a b c rr = some c) ∨ (¬ kf_isr rr ∧ kf_rd a b c rr = none) := by
  unfold kf_rd
  by_cases h0 : rr = 0
  · exact Or.inl ⟨h0, if_pos h0⟩
  · by_cases h1 : rr = 1
    · exact Or.inr (Or.inl ⟨h1, by rw [if_neg h0, if_pos h1]⟩)
    · by_cases h2 : rr = 2
      · exact Or.inr (Or.inr (Or.inl ⟨h2, by rw [if_neg h0, if_neg h1, if_pos h2]⟩))
      · exact Or.inr (Or.inr (Or.inr ⟨fun h => by rcases h with h | h | h; exact h0 h; exact h1 h; exact h2 h, by rw [if_neg h0, if_neg h1, if_neg h2]⟩))
theorem kf_rd_n {a b c : Nat} {rr : Int32} (h : ¬ kf_isr rr) : kf_rd a b c rr = none := by
  rcases kf_rd_c a b c rr with ⟨h1, -⟩ | ⟨h1, -⟩ | ⟨h1, -⟩ | ⟨-, h1⟩
  · exact absurd (Or.inl h1) h
  · exact absurd (Or.inr (Or.inl h1)) h
  · exact absurd (Or.inr (Or.inr h1)) h
  · exact h1
/-- which reader is open -/
abbrev kf_no (ob0 ob1 ob2 : Bool) (rr : Int32) : Prop := ¬ (rr = 0 ∧ ob0 = true) ∧ ¬ (rr = 1 ∧ ob1 = true) ∧ ¬ (rr = 2 ∧ ob2 = true)
def kf_ord (a b c : Nat) (ob0 ob1 ob2 : Bool) (rr : Int32) : Option Nat := if rr = 0 ∧ ob0 = true then some a else if rr = 1 ∧ ob1 = true then some b else if rr = 2 ∧ ob2 = true then some c else none
theorem kf_ord_c (a b c : Nat) (ob0 ob1 ob2 : Bool) (rr : Int32) : ((rr = 0 ∧ ob0 = true) ∧ kf_ord a b c ob0 ob1 ob2 rr = some a) ∨ ((rr = 1 ∧ ob1 = true) ∧ kf_ord a b c ob0 ob1 ob2 rr = some b) ∨ ((rr = 2 ∧ ob2 = true) ∧ kf_ord a b c ob0 ob1 ob2 rr = some c) ∨ (kf_no ob0 ob1 ob2 rr ∧ kf_ord a b c ob0 ob1 ob2 rr = none) := by
  unfold kf_ord
  by_cases h0 : rr = 0 ∧ ob0 = true
  · exact Or.inl ⟨h0, if_pos h0⟩
  · by_cases h1 : rr = 1 ∧ ob1 = true
    · exact Or.inr (Or.inl ⟨h1, by rw [if_neg h0, if_pos h1]⟩)
    · by_cases h2 : rr = 2 ∧ ob2 = true
      · exact Or.inr (Or.inr (Or.inl ⟨h2, by rw [if_neg h0, if_neg h1, if_pos h2]⟩))
      · exact Or.inr (Or.inr (Or.inr ⟨⟨h0, h1, h2⟩, by rw [if_neg h0, if_neg h1, if_neg h2]⟩))
/-- by the reader -/
def kf_by {α : Type} (ob0 ob1 ob2 : Bool) (rr : Int32) (a b c d : α) : α := if rr = 0 ∧ ob0 = true then a else if rr = 1 ∧ ob1 = true then b else if rr = 2 ∧ ob2 = true then c else d
theorem kf_by_0 {α : Type} {ob0 ob1 ob2 : Bool} {rr : Int32} {a b c d : α} (h : rr = 0 ∧ ob0 = true) : kf_by ob0 ob1 ob2 rr a b c d = a := if_pos h
theorem kf_by_1 {α : Type} {ob0 ob1 ob2 : Bool} {rr : Int32} {a b c d : α} (h : rr = 1 ∧ ob1 = true) : kf_by ob0 ob1 ob2 rr a b c d = b := by
  unfold kf_by
  rw [if_neg (fun z => by rw [h.1] at z; exact absurd z.1 (by decide)), if_pos h]
theorem kf_by_2 {α : Type} {ob0 ob1 ob2 : Bool} {rr : Int32} {a b c d : α} (h : rr = 2 ∧ ob2 = true) : kf_by ob0 ob1 ob2 rr a b c d = c := by
  unfold kf_by
  rw [if_neg (fun z => by rw [h.1] at z; exact absurd z.1 (by decide)), if_neg (fun z => by rw [h.1] at z; exact absurd z.1 (by decide)), if_pos h]
theorem kf_by_n {α : Type} {ob0 ob1 ob2 : Bool} {rr : Int32} {a b c d : α} (h : kf_no ob0 ob1 ob2 rr) : kf_by ob0 ob1 ob2 rr a b c d = d := by
  unfold kf_by
  rw [if_neg h.1, if_neg h.2.1, if_neg h.2.2]

set_option maxHeartbeats 4000000 in
set_option maxRecDepth 100000 in
theorem c_X3_readerOrNull (l : Launch) (G : kz_G) (xo hk hc ra : Nat) (rd0 rd1 rd2 : Nat) (rr : Int32) : Met l yX3_readerOrNull wsX3_readerOrNull { frames := 0, cells := 0, slots := 0, locals := 0 } (kz_Pp G [.ref xo, .int rr] [(xo, .inr (3, [.ref hk, .ref hc, .ref ra])), (ra, .inl (gO G, 3, .inr (.inr (.inr (.inr (kf_ra rd0 rd1 rd2))))))]) (va_Sq (fun r => r = kf_rd rd0 rd1 rd2 rr)) 0 0 (fun _ => False) := by
  refine Met.ofW (cc := cX3_readerOrNull) (maxL := 2) (ret := (some (.object "ForkStore$Reader"))) (by decide) rfl ?_
  intro p e s m args below meth c s₁ B hml hv
  obtain ⟨rfl, hP, hK⟩ := hv
  have hx := B.exec
  have hb := B.bytes
  have hr := B.returns
  have hts := atoms_spec (ws := wsX3_readerOrNull) B.pre
  have hown : s.vm.findClass RX3 = some m.cls := findClass_of_methodNamed B.named
  have hlocks := B.notSynchronized
  have hinX3 : ∀ w ∈ wsX30, w ∈ wsX3_readerOrNull := by decide +kernel
  have hP : va_P G.1 vwCl [(xo, .inr (3, [.ref hk, .ref hc, .ref ra])), (ra, .inl (gO G, 3, .inr (.inr (.inr (.inr (kf_ra rd0 rd1 rd2))))))] s.heap := hP
  have hl := lv_entry ([.ref xo, .int rr]) (n := 2) (Nat.le_of_ble_eq_true rfl)
  rw [lg_entry_eq]
  generalize (lg_sl ([.ref xo, .int rr]) ++ List.replicate (2 - (lg_sl ([.ref xo, .int rr])).length) Slot.unset).toArray = ls at hl ⊢
  have hl : lv_has ls 2 [(0, .ref xo), (1, .int rr)] := hl
  refine lv_iload_n hx hb dX3_readerOrNull_0 rfl (lv_at hl 1 rfl) ?_
  refine lv_if_lt (tgt := 22) hx hb dX3_readerOrNull_1 (by decide) (fun c_1 => ?_) (fun c_1 => ?_)
  · refine lv_null hx hb dX3_readerOrNull_22 ?_
    exact W.aret (v := .null) hx hb hr (Or.inl ⟨_, rfl⟩) (Or.inl rfl) (fun t ht hW => ⟨none, rfl, (kf_rd_n (fun h => by rcases h with h | h | h <;> (rw [h] at c_1; exact absurd c_1 (by decide)))).symm, ht⟩) (fun _ h => nomatch h) dX3_readerOrNull_23
  · refine lv_iload_n hx hb dX3_readerOrNull_4 rfl (lv_at hl 1 rfl) ?_
    refine lv_aload_n hx hb dX3_readerOrNull_5 rfl (lv_at hl 0 rfl) ?_
    refine va_get (D := G.1) (ci := 3) (v := .ref ra) (C := RX3) (T := TX3) (N := 3) hx hb hts hinX3 hown hK.1 hP 0 rfl rfl 2 (by decide) (hts (.fieldLink RX3 25 "ForkStore" "readers" "[LForkStore$Reader;") (by decide +kernel)) (fun _ h9 => h9) rfl dX3_readerOrNull_6 ?_
    refine va_alen (v := 3) hx hb hK.1 hP 1 3 rfl rfl rfl dX3_readerOrNull_9 ?_
    refine lv_icmp_ge (tgt := 22) hx hb dX3_readerOrNull_10 (by decide) (fun c_2 => ?_) (fun c_2 => ?_)
    · refine lv_null hx hb dX3_readerOrNull_22 ?_
      exact W.aret (v := .null) hx hb hr (Or.inl ⟨_, rfl⟩) (Or.inl rfl) (fun t ht hW => ⟨none, rfl, (kf_rd_n (fun h => by rcases h with h | h | h <;> (rw [h] at c_2; exact absurd c_2 (by decide)))).symm, ht⟩) (fun _ h => nomatch h) dX3_readerOrNull_23
    · obtain ⟨jj, hjj, rfl⟩ := kf_pl (nn := 3) (by decide) ⟨Int32.not_lt.mp c_1, Int32.not_le.mp c_2⟩
      refine lv_aload_n hx hb dX3_readerOrNull_13 rfl (lv_at hl 0 rfl) ?_
      refine va_get (D := G.1) (ci := 3) (v := .ref ra) (C := RX3) (T := TX3) (N := 3) hx hb hts hinX3 hown hK.1 hP 0 rfl rfl 2 (by decide) (hts (.fieldLink RX3 25 "ForkStore" "readers" "[LForkStore$Reader;") (by decide +kernel)) (fun _ h9 => h9) rfl dX3_readerOrNull_14 ?_
      refine lv_iload_n hx hb dX3_readerOrNull_17 rfl (lv_at hl 1 rfl) ?_
      refine kz_aldq hx hb hK.1 hP 1 3 rfl rfl (k := jj) (by omega) (by decide) dX3_readerOrNull_18 ?_
      refine lv_goto (tgt := 23) hx hb dX3_readerOrNull_19 (by decide) ?_
      exact W.aret (v := va_rf ((kf_ra rd0 rd1 rd2) jj)) hx hb hr (Or.inl ⟨_, rfl⟩) (va_rf_or _) (fun t ht hW => ⟨(kf_ra rd0 rd1 rd2) jj, rfl, (by rcases (show jj = 0 ∨ jj = 1 ∨ jj = 2 by omega) with rfl | rfl | rfl <;> rfl), ht⟩) (fun _ h => nomatch h) dX3_readerOrNull_23

set_option maxHeartbeats 4000000 in
set_option maxRecDepth 100000 in
theorem c_X3_openReaderOrNull (l : Launch) (G : kz_G) (xo hk hc ra : Nat) (rd0 : Nat) (ob0 : Bool) (pt0 hk0 aw0 az0 an0 nn0 : Nat) (fw0 : Nat → Int64) (zs0 : Nat → Nat) (fv0 : Nat → Int32) (rd1 : Nat) (ob1 : Bool) (pt1 hk1 aw1 az1 an1 nn1 : Nat) (fw1 : Nat → Int64) (zs1 : Nat → Nat) (fv1 : Nat → Int32) (rd2 : Nat) (ob2 : Bool) (pt2 hk2 aw2 az2 an2 nn2 : Nat) (fw2 : Nat → Int64) (zs2 : Nat → Nat) (fv2 : Nat → Int32) (rr : Int32) : Met l yX3_openReaderOrNull wsX3_openReaderOrNull { frames := 1, cells := 0, slots := 0, locals := 21 } (kz_Pp G [.ref xo, .int rr] [(xo, .inr (3, [.ref hk, .ref hc, .ref ra])), (ra, .inl (gO G, 3, .inr (.inr (.inr (.inr (kf_ra rd0 rd1 rd2)))))), (rd0, .inr (2, [.ref hk0, .int (kf_b ob0), .int (kf_p pt0)])), (hk0, .inr (1, [.ref aw0, .ref az0, .ref an0, .int (nI nn0)])), (aw0, .inl (gJ G, 120, .inr (.inl fw0))), (az0, .inl (gI G, 120, .inl (kz_z zs0))), (an0, .inl (gI G, 120, .inl fv0)), (rd1, .inr (2, [.ref hk1, .int (kf_b ob1), .int (kf_p pt1)])), (hk1, .inr (1, [.ref aw1, .ref az1, .ref an1, .int (nI nn1)])), (aw1, .inl (gJ G, 120, .inr (.inl fw1))), (az1, .inl (gI G, 120, .inl (kz_z zs1))), (an1, .inl (gI G, 120, .inl fv1)), (rd2, .inr (2, [.ref hk2, .int (kf_b ob2), .int (kf_p pt2)])), (hk2, .inr (1, [.ref aw2, .ref az2, .ref an2, .int (nI nn2)])), (aw2, .inl (gJ G, 120, .inr (.inl fw2))), (az2, .inl (gI G, 120, .inl (kz_z zs2))), (an2, .inl (gI G, 120, .inl fv2))]) (va_Sq (fun r => r = kf_ord rd0 rd1 rd2 ob0 ob1 ob2 rr)) 0 0 (fun _ => False) := by
  refine Met.ofW (cc := cX3_openReaderOrNull) (maxL := 3) (ret := (some (.object "ForkStore$Reader"))) (by decide) rfl ?_
  intro p e s m args below meth c s₁ B hml hv
  obtain ⟨rfl, hP, hK⟩ := hv
  have hx := B.exec
  have hb := B.bytes
  have hr := B.returns
  have hts := atoms_spec (ws := wsX3_openReaderOrNull) B.pre
  have hown : s.vm.findClass RX3 = some m.cls := findClass_of_methodNamed B.named
  have hlocks := B.notSynchronized
  have hP : va_P G.1 vwCl [(xo, .inr (3, [.ref hk, .ref hc, .ref ra])), (ra, .inl (gO G, 3, .inr (.inr (.inr (.inr (kf_ra rd0 rd1 rd2)))))), (rd0, .inr (2, [.ref hk0, .int (kf_b ob0), .int (kf_p pt0)])), (hk0, .inr (1, [.ref aw0, .ref az0, .ref an0, .int (nI nn0)])), (aw0, .inl (gJ G, 120, .inr (.inl fw0))), (az0, .inl (gI G, 120, .inl (kz_z zs0))), (an0, .inl (gI G, 120, .inl fv0)), (rd1, .inr (2, [.ref hk1, .int (kf_b ob1), .int (kf_p pt1)])), (hk1, .inr (1, [.ref aw1, .ref az1, .ref an1, .int (nI nn1)])), (aw1, .inl (gJ G, 120, .inr (.inl fw1))), (az1, .inl (gI G, 120, .inl (kz_z zs1))), (an1, .inl (gI G, 120, .inl fv1)), (rd2, .inr (2, [.ref hk2, .int (kf_b ob2), .int (kf_p pt2)])), (hk2, .inr (1, [.ref aw2, .ref az2, .ref an2, .int (nI nn2)])), (aw2, .inl (gJ G, 120, .inr (.inl fw2))), (az2, .inl (gI G, 120, .inl (kz_z zs2))), (an2, .inl (gI G, 120, .inl fv2))] s.heap := hP
  have hl := lv_entry ([.ref xo, .int rr]) (n := 3) (Nat.le_of_ble_eq_true rfl)
  rw [lg_entry_eq]
  generalize (lg_sl ([.ref xo, .int rr]) ++ List.replicate (3 - (lg_sl ([.ref xo, .int rr])).length) Slot.unset).toArray = ls at hl ⊢
  have hl : lv_has ls 3 [(0, .ref xo), (1, .int rr)] := hl
  refine lv_aload_n hx hb dX3_openReaderOrNull_0 rfl (lv_at hl 0 rfl) ?_
  refine lv_iload_n hx hb dX3_openReaderOrNull_1 rfl (lv_at hl 1 rfl) ?_
  have hPc := hP.sub (ws' := [(xo, .inr (3, [.ref hk, .ref hc, .ref ra])), (ra, .inl (gO G, 3, .inr (.inr (.inr (.inr (kf_ra rd0 rd1 rd2))))))]) [0, 1] rfl
  refine kz_cq (v := kf_rd rd0 rd1 rd2 rr) (va_runV (As := [.int rr]) (rest := []) ⟨hx, hb, hml, hown, hts⟩ (c_X3_readerOrNull l G xo hk hc ra rd0 rd1 rd2 rr) (cwV 1 hts gX3_openReaderOrNull_X3_readerOrNull rfl rfl rfl (by decide +kernel) ⟨Nat.le_of_ble_eq_true rfl, Nat.le_of_ble_eq_true rfl⟩) (kz_pv hK hPc (va_recv hK.1 hPc (ci := 3) (q0 := 0) rfl rfl)) rfl rfl hl.1 rfl (lv_room (Nat.le_of_ble_eq_true rfl)) dX3_openReaderOrNull_2 ⟨Nat.zero_le _, Nat.zero_le _⟩).run ?_
  rcases kf_rd_c rd0 rd1 rd2 rr with ⟨e1, e2⟩ | ⟨e1, e2⟩ | ⟨e1, e2⟩ | ⟨e1, e2⟩
  · refine kz_asq (y := .ref rd0) (by rw [e2]; rfl) ?_
    refine lv_astore_n (lv' := [(2, .ref rd0), (0, .ref xo), (1, .int rr)]) hx hb dX3_openReaderOrNull_5 rfl hl (by decide) rfl (fun ls hl => ?_)
    refine lv_aload_n hx hb dX3_openReaderOrNull_6 rfl (lv_at hl 0 rfl) ?_
    refine lv_ifnull hx hb dX3_openReaderOrNull_7 ?_
    refine lv_aload_n hx hb dX3_openReaderOrNull_10 rfl (lv_at hl 0 rfl) ?_
    have hPc := hP.sub (ws' := [(rd0, .inr (2, [.ref hk0, .int (kf_b ob0), .int (kf_p pt0)])), (hk0, .inr (1, [.ref aw0, .ref az0, .ref an0, .int (nI nn0)])), (aw0, .inl (gJ G, 120, .inr (.inl fw0))), (az0, .inl (gI G, 120, .inl (kz_z zs0))), (an0, .inl (gI G, 120, .inl fv0))]) [2, 3, 4, 5, 6] rfl
    refine kz_ci (v := kf_b ob0) (va_runV (As := []) (rest := []) ⟨hx, hb, hml, hown, hts⟩ (c_X2_isOpen l G rd0 ob0 pt0 hk0 aw0 az0 an0 nn0 fw0 (kz_z zs0) fv0  ) (cwV 0 hts gX3_openReaderOrNull_X2_isOpen rfl rfl rfl (by decide +kernel) ⟨Nat.le_of_ble_eq_true rfl, Nat.le_of_ble_eq_true rfl⟩) (kz_pv hK hPc (va_recv hK.1 hPc (ci := 2) (q0 := 0) rfl rfl)) rfl rfl hl.1 rfl (lv_room (Nat.le_of_ble_eq_true rfl)) dX3_openReaderOrNull_11 ⟨Nat.zero_le _, Nat.zero_le _⟩).run ?_
    refine lv_if_eq (tgt := 21) hx hb dX3_openReaderOrNull_14 (by decide) (fun c_1 => ?_) (fun c_1 => ?_)
    · have kc_1 : ob0 = false := kf_b_0.mp c_1
      refine lv_null hx hb dX3_openReaderOrNull_21 ?_
      exact W.aret (v := .null) hx hb hr (Or.inl ⟨_, rfl⟩) (Or.inl rfl) (fun t ht hW => ⟨none, rfl, (by unfold kf_ord; rw [if_neg (fun h => by rw [kc_1] at h; exact absurd h.2 (by decide)), if_neg (fun h => by rw [e1] at h; exact absurd h.1 (by decide)), if_neg (fun h => by rw [e1] at h; exact absurd h.1 (by decide))]), ht⟩) (fun _ h => nomatch h) dX3_openReaderOrNull_22
    · have kc_1 : ob0 = true := by
        cases h9 : ob0
        · exact absurd (by rw [h9]; rfl) c_1
        · rfl
      refine lv_aload_n hx hb dX3_openReaderOrNull_17 rfl (lv_at hl 0 rfl) ?_
      refine lv_goto (tgt := 22) hx hb dX3_openReaderOrNull_18 (by decide) ?_
      exact W.aret (v := .ref rd0) hx hb hr (Or.inl ⟨_, rfl⟩) (Or.inr ⟨_, rfl⟩) (fun t ht hW => ⟨some rd0, rfl, (by unfold kf_ord; rw [if_pos ⟨e1, kc_1⟩]), ht⟩) (fun _ h => nomatch h) dX3_openReaderOrNull_22
  · refine kz_asq (y := .ref rd1) (by rw [e2]; rfl) ?_
    refine lv_astore_n (lv' := [(2, .ref rd1), (0, .ref xo), (1, .int rr)]) hx hb dX3_openReaderOrNull_5 rfl hl (by decide) rfl (fun ls hl => ?_)
    refine lv_aload_n hx hb dX3_openReaderOrNull_6 rfl (lv_at hl 0 rfl) ?_
    refine lv_ifnull hx hb dX3_openReaderOrNull_7 ?_
    refine lv_aload_n hx hb dX3_openReaderOrNull_10 rfl (lv_at hl 0 rfl) ?_
    have hPc := hP.sub (ws' := [(rd1, .inr (2, [.ref hk1, .int (kf_b ob1), .int (kf_p pt1)])), (hk1, .inr (1, [.ref aw1, .ref az1, .ref an1, .int (nI nn1)])), (aw1, .inl (gJ G, 120, .inr (.inl fw1))), (az1, .inl (gI G, 120, .inl (kz_z zs1))), (an1, .inl (gI G, 120, .inl fv1))]) [7, 8, 9, 10, 11] rfl
    refine kz_ci (v := kf_b ob1) (va_runV (As := []) (rest := []) ⟨hx, hb, hml, hown, hts⟩ (c_X2_isOpen l G rd1 ob1 pt1 hk1 aw1 az1 an1 nn1 fw1 (kz_z zs1) fv1  ) (cwV 0 hts gX3_openReaderOrNull_X2_isOpen rfl rfl rfl (by decide +kernel) ⟨Nat.le_of_ble_eq_true rfl, Nat.le_of_ble_eq_true rfl⟩) (kz_pv hK hPc (va_recv hK.1 hPc (ci := 2) (q0 := 0) rfl rfl)) rfl rfl hl.1 rfl (lv_room (Nat.le_of_ble_eq_true rfl)) dX3_openReaderOrNull_11 ⟨Nat.zero_le _, Nat.zero_le _⟩).run ?_
    refine lv_if_eq (tgt := 21) hx hb dX3_openReaderOrNull_14 (by decide) (fun c_2 => ?_) (fun c_2 => ?_)
    · have kc_2 : ob1 = false := kf_b_0.mp c_2
      refine lv_null hx hb dX3_openReaderOrNull_21 ?_
      exact W.aret (v := .null) hx hb hr (Or.inl ⟨_, rfl⟩) (Or.inl rfl) (fun t ht hW => ⟨none, rfl, (by unfold kf_ord; rw [if_neg (fun h => by rw [e1] at h; exact absurd h.1 (by decide)), if_neg (fun h => by rw [kc_2] at h; exact absurd h.2 (by decide)), if_neg (fun h => by rw [e1] at h; exact absurd h.1 (by decide))]), ht⟩) (fun _ h => nomatch h) dX3_openReaderOrNull_22
    · have kc_2 : ob1 = true := by
        cases h9 : ob1
        · exact absurd (by rw [h9]; rfl) c_2
        · rfl
      refine lv_aload_n hx hb dX3_openReaderOrNull_17 rfl (lv_at hl 0 rfl) ?_
      refine lv_goto (tgt := 22) hx hb dX3_openReaderOrNull_18 (by decide) ?_
      exact W.aret (v := .ref rd1) hx hb hr (Or.inl ⟨_, rfl⟩) (Or.inr ⟨_, rfl⟩) (fun t ht hW => ⟨some rd1, rfl, (by unfold kf_ord; rw [if_neg (fun h => by rw [e1] at h; exact absurd h.1 (by decide)), if_pos ⟨e1, kc_2⟩]), ht⟩) (fun _ h => nomatch h) dX3_openReaderOrNull_22
  · refine kz_asq (y := .ref rd2) (by rw [e2]; rfl) ?_
    refine lv_astore_n (lv' := [(2, .ref rd2), (0, .ref xo), (1, .int rr)]) hx hb dX3_openReaderOrNull_5 rfl hl (by decide) rfl (fun ls hl => ?_)
    refine lv_aload_n hx hb dX3_openReaderOrNull_6 rfl (lv_at hl 0 rfl) ?_
    refine lv_ifnull hx hb dX3_openReaderOrNull_7 ?_
    refine lv_aload_n hx hb dX3_openReaderOrNull_10 rfl (lv_at hl 0 rfl) ?_
    have hPc := hP.sub (ws' := [(rd2, .inr (2, [.ref hk2, .int (kf_b ob2), .int (kf_p pt2)])), (hk2, .inr (1, [.ref aw2, .ref az2, .ref an2, .int (nI nn2)])), (aw2, .inl (gJ G, 120, .inr (.inl fw2))), (az2, .inl (gI G, 120, .inl (kz_z zs2))), (an2, .inl (gI G, 120, .inl fv2))]) [12, 13, 14, 15, 16] rfl
    refine kz_ci (v := kf_b ob2) (va_runV (As := []) (rest := []) ⟨hx, hb, hml, hown, hts⟩ (c_X2_isOpen l G rd2 ob2 pt2 hk2 aw2 az2 an2 nn2 fw2 (kz_z zs2) fv2  ) (cwV 0 hts gX3_openReaderOrNull_X2_isOpen rfl rfl rfl (by decide +kernel) ⟨Nat.le_of_ble_eq_true rfl, Nat.le_of_ble_eq_true rfl⟩) (kz_pv hK hPc (va_recv hK.1 hPc (ci := 2) (q0 := 0) rfl rfl)) rfl rfl hl.1 rfl (lv_room (Nat.le_of_ble_eq_true rfl)) dX3_openReaderOrNull_11 ⟨Nat.zero_le _, Nat.zero_le _⟩).run ?_
    refine lv_if_eq (tgt := 21) hx hb dX3_openReaderOrNull_14 (by decide) (fun c_3 => ?_) (fun c_3 => ?_)
    · have kc_3 : ob2 = false := kf_b_0.mp c_3
      refine lv_null hx hb dX3_openReaderOrNull_21 ?_
      exact W.aret (v := .null) hx hb hr (Or.inl ⟨_, rfl⟩) (Or.inl rfl) (fun t ht hW => ⟨none, rfl, (by unfold kf_ord; rw [if_neg (fun h => by rw [e1] at h; exact absurd h.1 (by decide)), if_neg (fun h => by rw [e1] at h; exact absurd h.1 (by decide)), if_neg (fun h => by rw [kc_3] at h; exact absurd h.2 (by decide))]), ht⟩) (fun _ h => nomatch h) dX3_openReaderOrNull_22
    · have kc_3 : ob2 = true := by
        cases h9 : ob2
        · exact absurd (by rw [h9]; rfl) c_3
        · rfl
      refine lv_aload_n hx hb dX3_openReaderOrNull_17 rfl (lv_at hl 0 rfl) ?_
      refine lv_goto (tgt := 22) hx hb dX3_openReaderOrNull_18 (by decide) ?_
      exact W.aret (v := .ref rd2) hx hb hr (Or.inl ⟨_, rfl⟩) (Or.inr ⟨_, rfl⟩) (fun t ht hW => ⟨some rd2, rfl, (by unfold kf_ord; rw [if_neg (fun h => by rw [e1] at h; exact absurd h.1 (by decide)), if_neg (fun h => by rw [e1] at h; exact absurd h.1 (by decide)), if_pos ⟨e1, kc_3⟩]), ht⟩) (fun _ h => nomatch h) dX3_openReaderOrNull_22
  · refine kz_asq (y := .null) (by rw [e2]; rfl) ?_
    refine lv_astore_nN (lv' := [(2, .null), (0, .ref xo), (1, .int rr)]) hx hb dX3_openReaderOrNull_5 rfl hl (by decide) rfl (fun ls hl => ?_)
    refine lv_aload_nN hx hb dX3_openReaderOrNull_6 rfl (lv_at hl 0 rfl) ?_
    refine lv_ifnullN (tgt := 21) hx hb dX3_openReaderOrNull_7 (by decide) ?_
    refine lv_null hx hb dX3_openReaderOrNull_21 ?_
    exact W.aret (v := .null) hx hb hr (Or.inl ⟨_, rfl⟩) (Or.inl rfl) (fun t ht hW => ⟨none, rfl, (by unfold kf_ord; rw [if_neg (fun h => e1 (Or.inl h.1)), if_neg (fun h => e1 (Or.inr (Or.inl h.1))), if_neg (fun h => e1 (Or.inr (Or.inr h.1)))]), ht⟩) (fun _ h => nomatch h) dX3_openReaderOrNull_22

set_option maxHeartbeats 4000000 in
set_option maxRecDepth 100000 in
theorem c_X3_key (l : Launch) (G : kz_G) (xo hk hc ra : Nat) (rd0 : Nat) (ob0 : Bool) (pt0 hk0 aw0 az0 an0 nn0 : Nat) (fw0 : Nat → Int64) (zs0 : Nat → Nat) (fv0 : Nat → Int32) (rd1 : Nat) (ob1 : Bool) (pt1 hk1 aw1 az1 an1 nn1 : Nat) (fw1 : Nat → Int64) (zs1 : Nat → Nat) (fv1 : Nat → Int32) (rd2 : Nat) (ob2 : Bool) (pt2 hk2 aw2 az2 an2 nn2 : Nat) (fw2 : Nat → Int64) (zs2 : Nat → Nat) (fv2 : Nat → Int32) (rr : Int32) (hn0 : nn0 ≤ 120) (hpt0 : pt0 ≤ 100000) (hz0 : ∀ j, zs0 j ≤ 8) (hn1 : nn1 ≤ 120) (hpt1 : pt1 ≤ 100000) (hz1 : ∀ j, zs1 j ≤ 8) (hn2 : nn2 ≤ 120) (hpt2 : pt2 ≤ 100000) (hz2 : ∀ j, zs2 j ≤ 8) : Met l yX3_key wsX3_key { frames := 3, cells := 0, slots := 0, locals := 62 } (kz_Pp G [.ref xo, .int rr] [(xo, .inr (3, [.ref hk, .ref hc, .ref ra])), (ra, .inl (gO G, 3, .inr (.inr (.inr (.inr (kf_ra rd0 rd1 rd2)))))), (rd0, .inr (2, [.ref hk0, .int (kf_b ob0), .int (kf_p pt0)])), (hk0, .inr (1, [.ref aw0, .ref az0, .ref an0, .int (nI nn0)])), (aw0, .inl (gJ G, 120, .inr (.inl fw0))), (az0, .inl (gI G, 120, .inl (kz_z zs0))), (an0, .inl (gI G, 120, .inl fv0)), (rd1, .inr (2, [.ref hk1, .int (kf_b ob1), .int (kf_p pt1)])), (hk1, .inr (1, [.ref aw1, .ref az1, .ref an1, .int (nI nn1)])), (aw1, .inl (gJ G, 120, .inr (.inl fw1))), (az1, .inl (gI G, 120, .inl (kz_z zs1))), (an1, .inl (gI G, 120, .inl fv1)), (rd2, .inr (2, [.ref hk2, .int (kf_b ob2), .int (kf_p pt2)])), (hk2, .inr (1, [.ref aw2, .ref az2, .ref an2, .int (nI nn2)])), (aw2, .inl (gJ G, 120, .inr (.inl fw2))), (az2, .inl (gI G, 120, .inl (kz_z zs2))), (an2, .inl (gI G, 120, .inl fv2))]) (vp_Sl (fun r => r = kf_by ob0 ob1 ob2 rr (if 0 < pt0 ∧ pt0 ≤ nn0 then fw0 (pt0 - 1) else 0) (if 0 < pt1 ∧ pt1 ≤ nn1 then fw1 (pt1 - 1) else 0) (if 0 < pt2 ∧ pt2 ≤ nn2 then fw2 (pt2 - 1) else 0) (0))) 0 0 (fun _ => False) := by
  refine Met.ofW (cc := cX3_key) (maxL := 3) (ret := (some .long)) (by decide) rfl ?_
  intro p e s m args below meth c s₁ B hml hv
  obtain ⟨rfl, hP, hK⟩ := hv
  have hx := B.exec
  have hb := B.bytes
  have hr := B.returns
  have hts := atoms_spec (ws := wsX3_key) B.pre
  have hown : s.vm.findClass RX3 = some m.cls := findClass_of_methodNamed B.named
  have hlocks := B.notSynchronized
  have hP : va_P G.1 vwCl [(xo, .inr (3, [.ref hk, .ref hc, .ref ra])), (ra, .inl (gO G, 3, .inr (.inr (.inr (.inr (kf_ra rd0 rd1 rd2)))))), (rd0, .inr (2, [.ref hk0, .int (kf_b ob0), .int (kf_p pt0)])), (hk0, .inr (1, [.ref aw0, .ref az0, .ref an0, .int (nI nn0)])), (aw0, .inl (gJ G, 120, .inr (.inl fw0))), (az0, .inl (gI G, 120, .inl (kz_z zs0))), (an0, .inl (gI G, 120, .inl fv0)), (rd1, .inr (2, [.ref hk1, .int (kf_b ob1), .int (kf_p pt1)])), (hk1, .inr (1, [.ref aw1, .ref az1, .ref an1, .int (nI nn1)])), (aw1, .inl (gJ G, 120, .inr (.inl fw1))), (az1, .inl (gI G, 120, .inl (kz_z zs1))), (an1, .inl (gI G, 120, .inl fv1)), (rd2, .inr (2, [.ref hk2, .int (kf_b ob2), .int (kf_p pt2)])), (hk2, .inr (1, [.ref aw2, .ref az2, .ref an2, .int (nI nn2)])), (aw2, .inl (gJ G, 120, .inr (.inl fw2))), (az2, .inl (gI G, 120, .inl (kz_z zs2))), (an2, .inl (gI G, 120, .inl fv2))] s.heap := hP
  have hl := lv_entry ([.ref xo, .int rr]) (n := 3) (Nat.le_of_ble_eq_true rfl)
  rw [lg_entry_eq]
  generalize (lg_sl ([.ref xo, .int rr]) ++ List.replicate (3 - (lg_sl ([.ref xo, .int rr])).length) Slot.unset).toArray = ls at hl ⊢
  have hl : lv_has ls 3 [(0, .ref xo), (1, .int rr)] := hl
  refine lv_aload_n hx hb dX3_key_0 rfl (lv_at hl 0 rfl) ?_
  refine lv_iload_n hx hb dX3_key_1 rfl (lv_at hl 1 rfl) ?_
  have hPc := hP.sub (ws' := [(xo, .inr (3, [.ref hk, .ref hc, .ref ra])), (ra, .inl (gO G, 3, .inr (.inr (.inr (.inr (kf_ra rd0 rd1 rd2)))))), (rd0, .inr (2, [.ref hk0, .int (kf_b ob0), .int (kf_p pt0)])), (hk0, .inr (1, [.ref aw0, .ref az0, .ref an0, .int (nI nn0)])), (aw0, .inl (gJ G, 120, .inr (.inl fw0))), (az0, .inl (gI G, 120, .inl (kz_z zs0))), (an0, .inl (gI G, 120, .inl fv0)), (rd1, .inr (2, [.ref hk1, .int (kf_b ob1), .int (kf_p pt1)])), (hk1, .inr (1, [.ref aw1, .ref az1, .ref an1, .int (nI nn1)])), (aw1, .inl (gJ G, 120, .inr (.inl fw1))), (az1, .inl (gI G, 120, .inl (kz_z zs1))), (an1, .inl (gI G, 120, .inl fv1)), (rd2, .inr (2, [.ref hk2, .int (kf_b ob2), .int (kf_p pt2)])), (hk2, .inr (1, [.ref aw2, .ref az2, .ref an2, .int (nI nn2)])), (aw2, .inl (gJ G, 120, .inr (.inl fw2))), (az2, .inl (gI G, 120, .inl (kz_z zs2))), (an2, .inl (gI G, 120, .inl fv2))]) [0, 1, 2, 3, 4, 5, 6, 7, 8, 9, 10, 11, 12, 13, 14, 15, 16] rfl
  refine kz_cq (v := kf_ord rd0 rd1 rd2 ob0 ob1 ob2 rr) (va_runV (As := [.int rr]) (rest := []) ⟨hx, hb, hml, hown, hts⟩ (c_X3_openReaderOrNull l G xo hk hc ra rd0 ob0 pt0 hk0 aw0 az0 an0 nn0 fw0 zs0 fv0 rd1 ob1 pt1 hk1 aw1 az1 an1 nn1 fw1 zs1 fv1 rd2 ob2 pt2 hk2 aw2 az2 an2 nn2 fw2 zs2 fv2 rr) (cwV 1 hts gX3_key_X3_openReaderOrNull rfl rfl rfl (by decide +kernel) ⟨Nat.le_of_ble_eq_true rfl, Nat.le_of_ble_eq_true rfl⟩) (kz_pv hK hPc (va_recv hK.1 hPc (ci := 3) (q0 := 0) rfl rfl)) rfl rfl hl.1 rfl (lv_room (Nat.le_of_ble_eq_true rfl)) dX3_key_2 ⟨Nat.zero_le _, Nat.zero_le _⟩).run ?_
  rcases kf_ord_c rd0 rd1 rd2 ob0 ob1 ob2 rr with ⟨e1, e2⟩ | ⟨e1, e2⟩ | ⟨e1, e2⟩ | ⟨e1, e2⟩
  · refine kz_asq (y := .ref rd0) (by rw [e2]; rfl) ?_
    refine lv_astore_n (lv' := [(2, .ref rd0), (0, .ref xo), (1, .int rr)]) hx hb dX3_key_5 rfl hl (by decide) rfl (fun ls hl => ?_)
    refine lv_aload_n hx hb dX3_key_6 rfl (lv_at hl 0 rfl) ?_
    refine lv_ifnonnull (tgt := 14) hx hb dX3_key_7 (by decide) ?_
    refine lv_aload_n hx hb dX3_key_14 rfl (lv_at hl 0 rfl) ?_
    have hPc := hP.sub (ws' := [(rd0, .inr (2, [.ref hk0, .int (kf_b ob0), .int (kf_p pt0)])), (hk0, .inr (1, [.ref aw0, .ref az0, .ref an0, .int (nI nn0)])), (aw0, .inl (gJ G, 120, .inr (.inl fw0))), (az0, .inl (gI G, 120, .inl (kz_z zs0))), (an0, .inl (gI G, 120, .inl fv0))]) [2, 3, 4, 5, 6] rfl
    refine kz_cl (v := if 0 < pt0 ∧ pt0 ≤ nn0 then fw0 (pt0 - 1) else 0) (va_runV (As := []) (rest := []) ⟨hx, hb, hml, hown, hts⟩ (c_X2_bytesHere l G rd0 ob0 pt0 hk0 aw0 az0 an0 nn0 fw0 (kz_z zs0) fv0  (by omega) (by omega)) (cwV 0 hts gX3_key_X2_bytesHere rfl rfl rfl (by decide +kernel) ⟨Nat.le_of_ble_eq_true rfl, Nat.le_of_ble_eq_true rfl⟩) (kz_pv hK hPc (va_recv hK.1 hPc (ci := 2) (q0 := 0) rfl rfl)) rfl rfl hl.1 rfl (lv_room (Nat.le_of_ble_eq_true rfl)) dX3_key_15 ⟨Nat.zero_le _, Nat.zero_le _⟩).run ?_
    exact W.lret (v := if 0 < pt0 ∧ pt0 ≤ nn0 then fw0 (pt0 - 1) else 0) hx hb hr (fun t ht hW => ⟨_, rfl, (kf_by_0 e1).symm, ht⟩) (fun _ h => nomatch h) dX3_key_18
  · refine kz_asq (y := .ref rd1) (by rw [e2]; rfl) ?_
    refine lv_astore_n (lv' := [(2, .ref rd1), (0, .ref xo), (1, .int rr)]) hx hb dX3_key_5 rfl hl (by decide) rfl (fun ls hl => ?_)
    refine lv_aload_n hx hb dX3_key_6 rfl (lv_at hl 0 rfl) ?_
    refine lv_ifnonnull (tgt := 14) hx hb dX3_key_7 (by decide) ?_
    refine lv_aload_n hx hb dX3_key_14 rfl (lv_at hl 0 rfl) ?_
    have hPc := hP.sub (ws' := [(rd1, .inr (2, [.ref hk1, .int (kf_b ob1), .int (kf_p pt1)])), (hk1, .inr (1, [.ref aw1, .ref az1, .ref an1, .int (nI nn1)])), (aw1, .inl (gJ G, 120, .inr (.inl fw1))), (az1, .inl (gI G, 120, .inl (kz_z zs1))), (an1, .inl (gI G, 120, .inl fv1))]) [7, 8, 9, 10, 11] rfl
    refine kz_cl (v := if 0 < pt1 ∧ pt1 ≤ nn1 then fw1 (pt1 - 1) else 0) (va_runV (As := []) (rest := []) ⟨hx, hb, hml, hown, hts⟩ (c_X2_bytesHere l G rd1 ob1 pt1 hk1 aw1 az1 an1 nn1 fw1 (kz_z zs1) fv1  (by omega) (by omega)) (cwV 0 hts gX3_key_X2_bytesHere rfl rfl rfl (by decide +kernel) ⟨Nat.le_of_ble_eq_true rfl, Nat.le_of_ble_eq_true rfl⟩) (kz_pv hK hPc (va_recv hK.1 hPc (ci := 2) (q0 := 0) rfl rfl)) rfl rfl hl.1 rfl (lv_room (Nat.le_of_ble_eq_true rfl)) dX3_key_15 ⟨Nat.zero_le _, Nat.zero_le _⟩).run ?_
    exact W.lret (v := if 0 < pt1 ∧ pt1 ≤ nn1 then fw1 (pt1 - 1) else 0) hx hb hr (fun t ht hW => ⟨_, rfl, (kf_by_1 e1).symm, ht⟩) (fun _ h => nomatch h) dX3_key_18
  · refine kz_asq (y := .ref rd2) (by rw [e2]; rfl) ?_
    refine lv_astore_n (lv' := [(2, .ref rd2), (0, .ref xo), (1, .int rr)]) hx hb dX3_key_5 rfl hl (by decide) rfl (fun ls hl => ?_)
    refine lv_aload_n hx hb dX3_key_6 rfl (lv_at hl 0 rfl) ?_
    refine lv_ifnonnull (tgt := 14) hx hb dX3_key_7 (by decide) ?_
    refine lv_aload_n hx hb dX3_key_14 rfl (lv_at hl 0 rfl) ?_
    have hPc := hP.sub (ws' := [(rd2, .inr (2, [.ref hk2, .int (kf_b ob2), .int (kf_p pt2)])), (hk2, .inr (1, [.ref aw2, .ref az2, .ref an2, .int (nI nn2)])), (aw2, .inl (gJ G, 120, .inr (.inl fw2))), (az2, .inl (gI G, 120, .inl (kz_z zs2))), (an2, .inl (gI G, 120, .inl fv2))]) [12, 13, 14, 15, 16] rfl
    refine kz_cl (v := if 0 < pt2 ∧ pt2 ≤ nn2 then fw2 (pt2 - 1) else 0) (va_runV (As := []) (rest := []) ⟨hx, hb, hml, hown, hts⟩ (c_X2_bytesHere l G rd2 ob2 pt2 hk2 aw2 az2 an2 nn2 fw2 (kz_z zs2) fv2  (by omega) (by omega)) (cwV 0 hts gX3_key_X2_bytesHere rfl rfl rfl (by decide +kernel) ⟨Nat.le_of_ble_eq_true rfl, Nat.le_of_ble_eq_true rfl⟩) (kz_pv hK hPc (va_recv hK.1 hPc (ci := 2) (q0 := 0) rfl rfl)) rfl rfl hl.1 rfl (lv_room (Nat.le_of_ble_eq_true rfl)) dX3_key_15 ⟨Nat.zero_le _, Nat.zero_le _⟩).run ?_
    exact W.lret (v := if 0 < pt2 ∧ pt2 ≤ nn2 then fw2 (pt2 - 1) else 0) hx hb hr (fun t ht hW => ⟨_, rfl, (kf_by_2 e1).symm, ht⟩) (fun _ h => nomatch h) dX3_key_18
  · refine kz_asq (y := .null) (by rw [e2]; rfl) ?_
    refine lv_astore_nN (lv' := [(2, .null), (0, .ref xo), (1, .int rr)]) hx hb dX3_key_5 rfl hl (by decide) rfl (fun ls hl => ?_)
    refine lv_aload_nN hx hb dX3_key_6 rfl (lv_at hl 0 rfl) ?_
    refine lv_ifnonnullN hx hb dX3_key_7 ?_
    refine lv_lconst (v := 0) hx hb dX3_key_10 (by decide) ?_
    refine lv_goto (tgt := 18) hx hb dX3_key_11 (by decide) ?_
    exact W.lret (v := 0) hx hb hr (fun t ht hW => ⟨_, rfl, (kf_by_n e1).symm, ht⟩) (fun _ h => nomatch h) dX3_key_18

set_option maxHeartbeats 4000000 in
set_option maxRecDepth 100000 in
theorem c_X3_length (l : Launch) (G : kz_G) (xo hk hc ra : Nat) (rd0 : Nat) (ob0 : Bool) (pt0 hk0 aw0 az0 an0 nn0 : Nat) (fw0 : Nat → Int64) (zs0 : Nat → Nat) (fv0 : Nat → Int32) (rd1 : Nat) (ob1 : Bool) (pt1 hk1 aw1 az1 an1 nn1 : Nat) (fw1 : Nat → Int64) (zs1 : Nat → Nat) (fv1 : Nat → Int32) (rd2 : Nat) (ob2 : Bool) (pt2 hk2 aw2 az2 an2 nn2 : Nat) (fw2 : Nat → Int64) (zs2 : Nat → Nat) (fv2 : Nat → Int32) (rr : Int32) (hn0 : nn0 ≤ 120) (hpt0 : pt0 ≤ 100000) (hz0 : ∀ j, zs0 j ≤ 8) (hn1 : nn1 ≤ 120) (hpt1 : pt1 ≤ 100000) (hz1 : ∀ j, zs1 j ≤ 8) (hn2 : nn2 ≤ 120) (hpt2 : pt2 ≤ 100000) (hz2 : ∀ j, zs2 j ≤ 8) : Met l yX3_length wsX3_length { frames := 3, cells := 0, slots := 0, locals := 62 } (kz_Pp G [.ref xo, .int rr] [(xo, .inr (3, [.ref hk, .ref hc, .ref ra])), (ra, .inl (gO G, 3, .inr (.inr (.inr (.inr (kf_ra rd0 rd1 rd2)))))), (rd0, .inr (2, [.ref hk0, .int (kf_b ob0), .int (kf_p pt0)])), (hk0, .inr (1, [.ref aw0, .ref az0, .ref an0, .int (nI nn0)])), (aw0, .inl (gJ G, 120, .inr (.inl fw0))), (az0, .inl (gI G, 120, .inl (kz_z zs0))), (an0, .inl (gI G, 120, .inl fv0)), (rd1, .inr (2, [.ref hk1, .int (kf_b ob1), .int (kf_p pt1)])), (hk1, .inr (1, [.ref aw1, .ref az1, .ref an1, .int (nI nn1)])), (aw1, .inl (gJ G, 120, .inr (.inl fw1))), (az1, .inl (gI G, 120, .inl (kz_z zs1))), (an1, .inl (gI G, 120, .inl fv1)), (rd2, .inr (2, [.ref hk2, .int (kf_b ob2), .int (kf_p pt2)])), (hk2, .inr (1, [.ref aw2, .ref az2, .ref an2, .int (nI nn2)])), (aw2, .inl (gJ G, 120, .inr (.inl fw2))), (az2, .inl (gI G, 120, .inl (kz_z zs2))), (an2, .inl (gI G, 120, .inl fv2))]) (vp_Si (fun r => r = kf_by ob0 ob1 ob2 rr (if 0 < pt0 ∧ pt0 ≤ nn0 then nI (zs0 (pt0 - 1)) else -1) (if 0 < pt1 ∧ pt1 ≤ nn1 then nI (zs1 (pt1 - 1)) else -1) (if 0 < pt2 ∧ pt2 ≤ nn2 then nI (zs2 (pt2 - 1)) else -1) (-1))) 0 0 (fun _ => False) := by
  refine Met.ofW (cc := cX3_length) (maxL := 3) (ret := (some .int)) (by decide) rfl ?_
  intro p e s m args below meth c s₁ B hml hv
  obtain ⟨rfl, hP, hK⟩ := hv
  have hx := B.exec
  have hb := B.bytes
  have hr := B.returns
  have hts := atoms_spec (ws := wsX3_length) B.pre
  have hown : s.vm.findClass RX3 = some m.cls := findClass_of_methodNamed B.named
  have hlocks := B.notSynchronized
  have hP : va_P G.1 vwCl [(xo, .inr (3, [.ref hk, .ref hc, .ref ra])), (ra, .inl (gO G, 3, .inr (.inr (.inr (.inr (kf_ra rd0 rd1 rd2)))))), (rd0, .inr (2, [.ref hk0, .int (kf_b ob0), .int (kf_p pt0)])), (hk0, .inr (1, [.ref aw0, .ref az0, .ref an0, .int (nI nn0)])), (aw0, .inl (gJ G, 120, .inr (.inl fw0))), (az0, .inl (gI G, 120, .inl (kz_z zs0))), (an0, .inl (gI G, 120, .inl fv0)), (rd1, .inr (2, [.ref hk1, .int (kf_b ob1), .int (kf_p pt1)])), (hk1, .inr (1, [.ref aw1, .ref az1, .ref an1, .int (nI nn1)])), (aw1, .inl (gJ G, 120, .inr (.inl fw1))), (az1, .inl (gI G, 120, .inl (kz_z zs1))), (an1, .inl (gI G, 120, .inl fv1)), (rd2, .inr (2, [.ref hk2, .int (kf_b ob2), .int (kf_p pt2)])), (hk2, .inr (1, [.ref aw2, .ref az2, .ref an2, .int (nI nn2)])), (aw2, .inl (gJ G, 120, .inr (.inl fw2))), (az2, .inl (gI G, 120, .inl (kz_z zs2))), (an2, .inl (gI G, 120, .inl fv2))] s.heap := hP
  have hl := lv_entry ([.ref xo, .int rr]) (n := 3) (Nat.le_of_ble_eq_true rfl)
  rw [lg_entry_eq]
  generalize (lg_sl ([.ref xo, .int rr]) ++ List.replicate (3 - (lg_sl ([.ref xo, .int rr])).length) Slot.unset).toArray = ls at hl ⊢
  have hl : lv_has ls 3 [(0, .ref xo), (1, .int rr)] := hl
  refine lv_aload_n hx hb dX3_length_0 rfl (lv_at hl 0 rfl) ?_
  refine lv_iload_n hx hb dX3_length_1 rfl (lv_at hl 1 rfl) ?_
  have hPc := hP.sub (ws' := [(xo, .inr (3, [.ref hk, .ref hc, .ref ra])), (ra, .inl (gO G, 3, .inr (.inr (.inr (.inr (kf_ra rd0 rd1 rd2)))))), (rd0, .inr (2, [.ref hk0, .int (kf_b ob0), .int (kf_p pt0)])), (hk0, .inr (1, [.ref aw0, .ref az0, .ref an0, .int (nI nn0)])), (aw0, .inl (gJ G, 120, .inr (.inl fw0))), (az0, .inl (gI G, 120, .inl (kz_z zs0))), (an0, .inl (gI G, 120, .inl fv0)), (rd1, .inr (2, [.ref hk1, .int (kf_b ob1), .int (kf_p pt1)])), (hk1, .inr (1, [.ref aw1, .ref az1, .ref an1, .int (nI nn1)])), (aw1, .inl (gJ G, 120, .inr (.inl fw1))), (az1, .inl (gI G, 120, .inl (kz_z zs1))), (an1, .inl (gI G, 120, .inl fv1)), (rd2, .inr (2, [.ref hk2, .int (kf_b ob2), .int (kf_p pt2)])), (hk2, .inr (1, [.ref aw2, .ref az2, .ref an2, .int (nI nn2)])), (aw2, .inl (gJ G, 120, .inr (.inl fw2))), (az2, .inl (gI G, 120, .inl (kz_z zs2))), (an2, .inl (gI G, 120, .inl fv2))]) [0, 1, 2, 3, 4, 5, 6, 7, 8, 9, 10, 11, 12, 13, 14, 15, 16] rfl
  refine kz_cq (v := kf_ord rd0 rd1 rd2 ob0 ob1 ob2 rr) (va_runV (As := [.int rr]) (rest := []) ⟨hx, hb, hml, hown, hts⟩ (c_X3_openReaderOrNull l G xo hk hc ra rd0 ob0 pt0 hk0 aw0 az0 an0 nn0 fw0 zs0 fv0 rd1 ob1 pt1 hk1 aw1 az1 an1 nn1 fw1 zs1 fv1 rd2 ob2 pt2 hk2 aw2 az2 an2 nn2 fw2 zs2 fv2 rr) (cwV 1 hts gX3_length_X3_openReaderOrNull rfl rfl rfl (by decide +kernel) ⟨Nat.le_of_ble_eq_true rfl, Nat.le_of_ble_eq_true rfl⟩) (kz_pv hK hPc (va_recv hK.1 hPc (ci := 3) (q0 := 0) rfl rfl)) rfl rfl hl.1 rfl (lv_room (Nat.le_of_ble_eq_true rfl)) dX3_length_2 ⟨Nat.zero_le _, Nat.zero_le _⟩).run ?_
  rcases kf_ord_c rd0 rd1 rd2 ob0 ob1 ob2 rr with ⟨e1, e2⟩ | ⟨e1, e2⟩ | ⟨e1, e2⟩ | ⟨e1, e2⟩
  · refine kz_asq (y := .ref rd0) (by rw [e2]; rfl) ?_
    refine lv_astore_n (lv' := [(2, .ref rd0), (0, .ref xo), (1, .int rr)]) hx hb dX3_length_5 rfl hl (by decide) rfl (fun ls hl => ?_)
    refine lv_aload_n hx hb dX3_length_6 rfl (lv_at hl 0 rfl) ?_
    refine lv_ifnonnull (tgt := 14) hx hb dX3_length_7 (by decide) ?_
    refine lv_aload_n hx hb dX3_length_14 rfl (lv_at hl 0 rfl) ?_
    have hPc := hP.sub (ws' := [(rd0, .inr (2, [.ref hk0, .int (kf_b ob0), .int (kf_p pt0)])), (hk0, .inr (1, [.ref aw0, .ref az0, .ref an0, .int (nI nn0)])), (aw0, .inl (gJ G, 120, .inr (.inl fw0))), (az0, .inl (gI G, 120, .inl (kz_z zs0))), (an0, .inl (gI G, 120, .inl fv0))]) [2, 3, 4, 5, 6] rfl
    refine kz_ci (v := if 0 < pt0 ∧ pt0 ≤ nn0 then (kz_z zs0) (pt0 - 1) else -1) (va_runV (As := []) (rest := []) ⟨hx, hb, hml, hown, hts⟩ (c_X2_sizeHere l G rd0 ob0 pt0 hk0 aw0 az0 an0 nn0 fw0 (kz_z zs0) fv0  (by omega) (by omega)) (cwV 0 hts gX3_length_X2_sizeHere rfl rfl rfl (by decide +kernel) ⟨Nat.le_of_ble_eq_true rfl, Nat.le_of_ble_eq_true rfl⟩) (kz_pv hK hPc (va_recv hK.1 hPc (ci := 2) (q0 := 0) rfl rfl)) rfl rfl hl.1 rfl (lv_room (Nat.le_of_ble_eq_true rfl)) dX3_length_15 ⟨Nat.zero_le _, Nat.zero_le _⟩).run ?_
    exact W.iret (v := if 0 < pt0 ∧ pt0 ≤ nn0 then (kz_z zs0) (pt0 - 1) else -1) hx hb hr (fun t ht hW => ⟨_, rfl, (kf_by_0 e1).symm, ht⟩) (fun _ h => nomatch h) dX3_length_18
  · refine kz_asq (y := .ref rd1) (by rw [e2]; rfl) ?_
    refine lv_astore_n (lv' := [(2, .ref rd1), (0, .ref xo), (1, .int rr)]) hx hb dX3_length_5 rfl hl (by decide) rfl (fun ls hl => ?_)
    refine lv_aload_n hx hb dX3_length_6 rfl (lv_at hl 0 rfl) ?_
    refine lv_ifnonnull (tgt := 14) hx hb dX3_length_7 (by decide) ?_
    refine lv_aload_n hx hb dX3_length_14 rfl (lv_at hl 0 rfl) ?_
    have hPc := hP.sub (ws' := [(rd1, .inr (2, [.ref hk1, .int (kf_b ob1), .int (kf_p pt1)])), (hk1, .inr (1, [.ref aw1, .ref az1, .ref an1, .int (nI nn1)])), (aw1, .inl (gJ G, 120, .inr (.inl fw1))), (az1, .inl (gI G, 120, .inl (kz_z zs1))), (an1, .inl (gI G, 120, .inl fv1))]) [7, 8, 9, 10, 11] rfl
    refine kz_ci (v := if 0 < pt1 ∧ pt1 ≤ nn1 then (kz_z zs1) (pt1 - 1) else -1) (va_runV (As := []) (rest := []) ⟨hx, hb, hml, hown, hts⟩ (c_X2_sizeHere l G rd1 ob1 pt1 hk1 aw1 az1 an1 nn1 fw1 (kz_z zs1) fv1  (by omega) (by omega)) (cwV 0 hts gX3_length_X2_sizeHere rfl rfl rfl (by decide +kernel) ⟨Nat.le_of_ble_eq_true rfl, Nat.le_of_ble_eq_true rfl⟩) (kz_pv hK hPc (va_recv hK.1 hPc (ci := 2) (q0 := 0) rfl rfl)) rfl rfl hl.1 rfl (lv_room (Nat.le_of_ble_eq_true rfl)) dX3_length_15 ⟨Nat.zero_le _, Nat.zero_le _⟩).run ?_
    exact W.iret (v := if 0 < pt1 ∧ pt1 ≤ nn1 then (kz_z zs1) (pt1 - 1) else -1) hx hb hr (fun t ht hW => ⟨_, rfl, (kf_by_1 e1).symm, ht⟩) (fun _ h => nomatch h) dX3_length_18
  · refine kz_asq (y := .ref rd2) (by rw [e2]; rfl) ?_
    refine lv_astore_n (lv' := [(2, .ref rd2), (0, .ref xo), (1, .int rr)]) hx hb dX3_length_5 rfl hl (by decide) rfl (fun ls hl => ?_)
    refine lv_aload_n hx hb dX3_length_6 rfl (lv_at hl 0 rfl) ?_
    refine lv_ifnonnull (tgt := 14) hx hb dX3_length_7 (by decide) ?_
    refine lv_aload_n hx hb dX3_length_14 rfl (lv_at hl 0 rfl) ?_
    have hPc := hP.sub (ws' := [(rd2, .inr (2, [.ref hk2, .int (kf_b ob2), .int (kf_p pt2)])), (hk2, .inr (1, [.ref aw2, .ref az2, .ref an2, .int (nI nn2)])), (aw2, .inl (gJ G, 120, .inr (.inl fw2))), (az2, .inl (gI G, 120, .inl (kz_z zs2))), (an2, .inl (gI G, 120, .inl fv2))]) [12, 13, 14, 15, 16] rfl
    refine kz_ci (v := if 0 < pt2 ∧ pt2 ≤ nn2 then (kz_z zs2) (pt2 - 1) else -1) (va_runV (As := []) (rest := []) ⟨hx, hb, hml, hown, hts⟩ (c_X2_sizeHere l G rd2 ob2 pt2 hk2 aw2 az2 an2 nn2 fw2 (kz_z zs2) fv2  (by omega) (by omega)) (cwV 0 hts gX3_length_X2_sizeHere rfl rfl rfl (by decide +kernel) ⟨Nat.le_of_ble_eq_true rfl, Nat.le_of_ble_eq_true rfl⟩) (kz_pv hK hPc (va_recv hK.1 hPc (ci := 2) (q0 := 0) rfl rfl)) rfl rfl hl.1 rfl (lv_room (Nat.le_of_ble_eq_true rfl)) dX3_length_15 ⟨Nat.zero_le _, Nat.zero_le _⟩).run ?_
    exact W.iret (v := if 0 < pt2 ∧ pt2 ≤ nn2 then (kz_z zs2) (pt2 - 1) else -1) hx hb hr (fun t ht hW => ⟨_, rfl, (kf_by_2 e1).symm, ht⟩) (fun _ h => nomatch h) dX3_length_18
  · refine kz_asq (y := .null) (by rw [e2]; rfl) ?_
    refine lv_astore_nN (lv' := [(2, .null), (0, .ref xo), (1, .int rr)]) hx hb dX3_length_5 rfl hl (by decide) rfl (fun ls hl => ?_)
    refine lv_aload_nN hx hb dX3_length_6 rfl (lv_at hl 0 rfl) ?_
    refine lv_ifnonnullN hx hb dX3_length_7 ?_
    refine lv_iconst (v := (-1)) hx hb dX3_length_10 (by decide) ?_
    refine lv_goto (tgt := 18) hx hb dX3_length_11 (by decide) ?_
    exact W.iret (v := (-1)) hx hb hr (fun t ht hW => ⟨_, rfl, (kf_by_n e1).symm, ht⟩) (fun _ h => nomatch h) dX3_length_18

set_option maxHeartbeats 4000000 in
set_option maxRecDepth 100000 in
theorem c_X3_value (l : Launch) (G : kz_G) (xo hk hc ra : Nat) (rd0 : Nat) (ob0 : Bool) (pt0 hk0 aw0 az0 an0 nn0 : Nat) (fw0 : Nat → Int64) (zs0 : Nat → Nat) (fv0 : Nat → Int32) (rd1 : Nat) (ob1 : Bool) (pt1 hk1 aw1 az1 an1 nn1 : Nat) (fw1 : Nat → Int64) (zs1 : Nat → Nat) (fv1 : Nat → Int32) (rd2 : Nat) (ob2 : Bool) (pt2 hk2 aw2 az2 an2 nn2 : Nat) (fw2 : Nat → Int64) (zs2 : Nat → Nat) (fv2 : Nat → Int32) (rr : Int32) (hn0 : nn0 ≤ 120) (hpt0 : pt0 ≤ 100000) (hz0 : ∀ j, zs0 j ≤ 8) (hn1 : nn1 ≤ 120) (hpt1 : pt1 ≤ 100000) (hz1 : ∀ j, zs1 j ≤ 8) (hn2 : nn2 ≤ 120) (hpt2 : pt2 ≤ 100000) (hz2 : ∀ j, zs2 j ≤ 8) : Met l yX3_value wsX3_value { frames := 3, cells := 0, slots := 0, locals := 62 } (kz_Pp G [.ref xo, .int rr] [(xo, .inr (3, [.ref hk, .ref hc, .ref ra])), (ra, .inl (gO G, 3, .inr (.inr (.inr (.inr (kf_ra rd0 rd1 rd2)))))), (rd0, .inr (2, [.ref hk0, .int (kf_b ob0), .int (kf_p pt0)])), (hk0, .inr (1, [.ref aw0, .ref az0, .ref an0, .int (nI nn0)])), (aw0, .inl (gJ G, 120, .inr (.inl fw0))), (az0, .inl (gI G, 120, .inl (kz_z zs0))), (an0, .inl (gI G, 120, .inl fv0)), (rd1, .inr (2, [.ref hk1, .int (kf_b ob1), .int (kf_p pt1)])), (hk1, .inr (1, [.ref aw1, .ref az1, .ref an1, .int (nI nn1)])), (aw1, .inl (gJ G, 120, .inr (.inl fw1))), (az1, .inl (gI G, 120, .inl (kz_z zs1))), (an1, .inl (gI G, 120, .inl fv1)), (rd2, .inr (2, [.ref hk2, .int (kf_b ob2), .int (kf_p pt2)])), (hk2, .inr (1, [.ref aw2, .ref az2, .ref an2, .int (nI nn2)])), (aw2, .inl (gJ G, 120, .inr (.inl fw2))), (az2, .inl (gI G, 120, .inl (kz_z zs2))), (an2, .inl (gI G, 120, .inl fv2))]) (vp_Si (fun r => r = kf_by ob0 ob1 ob2 rr (if 0 < pt0 ∧ pt0 ≤ nn0 then fv0 (pt0 - 1) else 0) (if 0 < pt1 ∧ pt1 ≤ nn1 then fv1 (pt1 - 1) else 0) (if 0 < pt2 ∧ pt2 ≤ nn2 then fv2 (pt2 - 1) else 0) (0))) 0 0 (fun _ => False) := by
  refine Met.ofW (cc := cX3_value) (maxL := 3) (ret := (some .int)) (by decide) rfl ?_
  intro p e s m args below meth c s₁ B hml hv
  obtain ⟨rfl, hP, hK⟩ := hv
  have hx := B.exec
  have hb := B.bytes
  have hr := B.returns
  have hts := atoms_spec (ws := wsX3_value) B.pre
  have hown : s.vm.findClass RX3 = some m.cls := findClass_of_methodNamed B.named
  have hlocks := B.notSynchronized
  have hP : va_P G.1 vwCl [(xo, .inr (3, [.ref hk, .ref hc, .ref ra])), (ra, .inl (gO G, 3, .inr (.inr (.inr (.inr (kf_ra rd0 rd1 rd2)))))), (rd0, .inr (2, [.ref hk0, .int (kf_b ob0), .int (kf_p pt0)])), (hk0, .inr (1, [.ref aw0, .ref az0, .ref an0, .int (nI nn0)])), (aw0, .inl (gJ G, 120, .inr (.inl fw0))), (az0, .inl (gI G, 120, .inl (kz_z zs0))), (an0, .inl (gI G, 120, .inl fv0)), (rd1, .inr (2, [.ref hk1, .int (kf_b ob1), .int (kf_p pt1)])), (hk1, .inr (1, [.ref aw1, .ref az1, .ref an1, .int (nI nn1)])), (aw1, .inl (gJ G, 120, .inr (.inl fw1))), (az1, .inl (gI G, 120, .inl (kz_z zs1))), (an1, .inl (gI G, 120, .inl fv1)), (rd2, .inr (2, [.ref hk2, .int (kf_b ob2), .int (kf_p pt2)])), (hk2, .inr (1, [.ref aw2, .ref az2, .ref an2, .int (nI nn2)])), (aw2, .inl (gJ G, 120, .inr (.inl fw2))), (az2, .inl (gI G, 120, .inl (kz_z zs2))), (an2, .inl (gI G, 120, .inl fv2))] s.heap := hP
  have hl := lv_entry ([.ref xo, .int rr]) (n := 3) (Nat.le_of_ble_eq_true rfl)
  rw [lg_entry_eq]
  generalize (lg_sl ([.ref xo, .int rr]) ++ List.replicate (3 - (lg_sl ([.ref xo, .int rr])).length) Slot.unset).toArray = ls at hl ⊢
  have hl : lv_has ls 3 [(0, .ref xo), (1, .int rr)] := hl
  refine lv_aload_n hx hb dX3_value_0 rfl (lv_at hl 0 rfl) ?_
  refine lv_iload_n hx hb dX3_value_1 rfl (lv_at hl 1 rfl) ?_
  have hPc := hP.sub (ws' := [(xo, .inr (3, [.ref hk, .ref hc, .ref ra])), (ra, .inl (gO G, 3, .inr (.inr (.inr (.inr (kf_ra rd0 rd1 rd2)))))), (rd0, .inr (2, [.ref hk0, .int (kf_b ob0), .int (kf_p pt0)])), (hk0, .inr (1, [.ref aw0, .ref az0, .ref an0, .int (nI nn0)])), (aw0, .inl (gJ G, 120, .inr (.inl fw0))), (az0, .inl (gI G, 120, .inl (kz_z zs0))), (an0, .inl (gI G, 120, .inl fv0)), (rd1, .inr (2, [.ref hk1, .int (kf_b ob1), .int (kf_p pt1)])), (hk1, .inr (1, [.ref aw1, .ref az1, .ref an1, .int (nI nn1)])), (aw1, .inl (gJ G, 120, .inr (.inl fw1))), (az1, .inl (gI G, 120, .inl (kz_z zs1))), (an1, .inl (gI G, 120, .inl fv1)), (rd2, .inr (2, [.ref hk2, .int (kf_b ob2), .int (kf_p pt2)])), (hk2, .inr (1, [.ref aw2, .ref az2, .ref an2, .int (nI nn2)])), (aw2, .inl (gJ G, 120, .inr (.inl fw2))), (az2, .inl (gI G, 120, .inl (kz_z zs2))), (an2, .inl (gI G, 120, .inl fv2))]) [0, 1, 2, 3, 4, 5, 6, 7, 8, 9, 10, 11, 12, 13, 14, 15, 16] rfl
  refine kz_cq (v := kf_ord rd0 rd1 rd2 ob0 ob1 ob2 rr) (va_runV (As := [.int rr]) (rest := []) ⟨hx, hb, hml, hown, hts⟩ (c_X3_openReaderOrNull l G xo hk hc ra rd0 ob0 pt0 hk0 aw0 az0 an0 nn0 fw0 zs0 fv0 rd1 ob1 pt1 hk1 aw1 az1 an1 nn1 fw1 zs1 fv1 rd2 ob2 pt2 hk2 aw2 az2 an2 nn2 fw2 zs2 fv2 rr) (cwV 1 hts gX3_value_X3_openReaderOrNull rfl rfl rfl (by decide +kernel) ⟨Nat.le_of_ble_eq_true rfl, Nat.le_of_ble_eq_true rfl⟩) (kz_pv hK hPc (va_recv hK.1 hPc (ci := 3) (q0 := 0) rfl rfl)) rfl rfl hl.1 rfl (lv_room (Nat.le_of_ble_eq_true rfl)) dX3_value_2 ⟨Nat.zero_le _, Nat.zero_le _⟩).run ?_
  rcases kf_ord_c rd0 rd1 rd2 ob0 ob1 ob2 rr with ⟨e1, e2⟩ | ⟨e1, e2⟩ | ⟨e1, e2⟩ | ⟨e1, e2⟩
  · refine kz_asq (y := .ref rd0) (by rw [e2]; rfl) ?_
    refine lv_astore_n (lv' := [(2, .ref rd0), (0, .ref xo), (1, .int rr)]) hx hb dX3_value_5 rfl hl (by decide) rfl (fun ls hl => ?_)
    refine lv_aload_n hx hb dX3_value_6 rfl (lv_at hl 0 rfl) ?_
    refine lv_ifnonnull (tgt := 14) hx hb dX3_value_7 (by decide) ?_
    refine lv_aload_n hx hb dX3_value_14 rfl (lv_at hl 0 rfl) ?_
    have hPc := hP.sub (ws' := [(rd0, .inr (2, [.ref hk0, .int (kf_b ob0), .int (kf_p pt0)])), (hk0, .inr (1, [.ref aw0, .ref az0, .ref an0, .int (nI nn0)])), (aw0, .inl (gJ G, 120, .inr (.inl fw0))), (az0, .inl (gI G, 120, .inl (kz_z zs0))), (an0, .inl (gI G, 120, .inl fv0))]) [2, 3, 4, 5, 6] rfl
    refine kz_ci (v := if 0 < pt0 ∧ pt0 ≤ nn0 then fv0 (pt0 - 1) else 0) (va_runV (As := []) (rest := []) ⟨hx, hb, hml, hown, hts⟩ (c_X2_numberHere l G rd0 ob0 pt0 hk0 aw0 az0 an0 nn0 fw0 (kz_z zs0) fv0  (by omega) (by omega)) (cwV 0 hts gX3_value_X2_numberHere rfl rfl rfl (by decide +kernel) ⟨Nat.le_of_ble_eq_true rfl, Nat.le_of_ble_eq_true rfl⟩) (kz_pv hK hPc (va_recv hK.1 hPc (ci := 2) (q0 := 0) rfl rfl)) rfl rfl hl.1 rfl (lv_room (Nat.le_of_ble_eq_true rfl)) dX3_value_15 ⟨Nat.zero_le _, Nat.zero_le _⟩).run ?_
    exact W.iret (v := if 0 < pt0 ∧ pt0 ≤ nn0 then fv0 (pt0 - 1) else 0) hx hb hr (fun t ht hW => ⟨_, rfl, (kf_by_0 e1).symm, ht⟩) (fun _ h => nomatch h) dX3_value_18
  · refine kz_asq (y := .ref rd1) (by rw [e2]; rfl) ?_
    refine lv_astore_n (lv' := [(2, .ref rd1), (0, .ref xo), (1, .int rr)]) hx hb dX3_value_5 rfl hl (by decide) rfl (fun ls hl => ?_)
    refine lv_aload_n hx hb dX3_value_6 rfl (lv_at hl 0 rfl) ?_
    refine lv_ifnonnull (tgt := 14) hx hb dX3_value_7 (by decide) ?_
    refine lv_aload_n hx hb dX3_value_14 rfl (lv_at hl 0 rfl) ?_
    have hPc := hP.sub (ws' := [(rd1, .inr (2, [.ref hk1, .int (kf_b ob1), .int (kf_p pt1)])), (hk1, .inr (1, [.ref aw1, .ref az1, .ref an1, .int (nI nn1)])), (aw1, .inl (gJ G, 120, .inr (.inl fw1))), (az1, .inl (gI G, 120, .inl (kz_z zs1))), (an1, .inl (gI G, 120, .inl fv1))]) [7, 8, 9, 10, 11] rfl
    refine kz_ci (v := if 0 < pt1 ∧ pt1 ≤ nn1 then fv1 (pt1 - 1) else 0) (va_runV (As := []) (rest := []) ⟨hx, hb, hml, hown, hts⟩ (c_X2_numberHere l G rd1 ob1 pt1 hk1 aw1 az1 an1 nn1 fw1 (kz_z zs1) fv1  (by omega) (by omega)) (cwV 0 hts gX3_value_X2_numberHere rfl rfl rfl (by decide +kernel) ⟨Nat.le_of_ble_eq_true rfl, Nat.le_of_ble_eq_true rfl⟩) (kz_pv hK hPc (va_recv hK.1 hPc (ci := 2) (q0 := 0) rfl rfl)) rfl rfl hl.1 rfl (lv_room (Nat.le_of_ble_eq_true rfl)) dX3_value_15 ⟨Nat.zero_le _, Nat.zero_le _⟩).run ?_
    exact W.iret (v := if 0 < pt1 ∧ pt1 ≤ nn1 then fv1 (pt1 - 1) else 0) hx hb hr (fun t ht hW => ⟨_, rfl, (kf_by_1 e1).symm, ht⟩) (fun _ h => nomatch h) dX3_value_18
  · refine kz_asq (y := .ref rd2) (by rw [e2]; rfl) ?_
    refine lv_astore_n (lv' := [(2, .ref rd2), (0, .ref xo), (1, .int rr)]) hx hb dX3_value_5 rfl hl (by decide) rfl (fun ls hl => ?_)
    refine lv_aload_n hx hb dX3_value_6 rfl (lv_at hl 0 rfl) ?_
    refine lv_ifnonnull (tgt := 14) hx hb dX3_value_7 (by decide) ?_
    refine lv_aload_n hx hb dX3_value_14 rfl (lv_at hl 0 rfl) ?_
    have hPc := hP.sub (ws' := [(rd2, .inr (2, [.ref hk2, .int (kf_b ob2), .int (kf_p pt2)])), (hk2, .inr (1, [.ref aw2, .ref az2, .ref an2, .int (nI nn2)])), (aw2, .inl (gJ G, 120, .inr (.inl fw2))), (az2, .inl (gI G, 120, .inl (kz_z zs2))), (an2, .inl (gI G, 120, .inl fv2))]) [12, 13, 14, 15, 16] rfl
    refine kz_ci (v := if 0 < pt2 ∧ pt2 ≤ nn2 then fv2 (pt2 - 1) else 0) (va_runV (As := []) (rest := []) ⟨hx, hb, hml, hown, hts⟩ (c_X2_numberHere l G rd2 ob2 pt2 hk2 aw2 az2 an2 nn2 fw2 (kz_z zs2) fv2  (by omega) (by omega)) (cwV 0 hts gX3_value_X2_numberHere rfl rfl rfl (by decide +kernel) ⟨Nat.le_of_ble_eq_true rfl, Nat.le_of_ble_eq_true rfl⟩) (kz_pv hK hPc (va_recv hK.1 hPc (ci := 2) (q0 := 0) rfl rfl)) rfl rfl hl.1 rfl (lv_room (Nat.le_of_ble_eq_true rfl)) dX3_value_15 ⟨Nat.zero_le _, Nat.zero_le _⟩).run ?_
    exact W.iret (v := if 0 < pt2 ∧ pt2 ≤ nn2 then fv2 (pt2 - 1) else 0) hx hb hr (fun t ht hW => ⟨_, rfl, (kf_by_2 e1).symm, ht⟩) (fun _ h => nomatch h) dX3_value_18
  · refine kz_asq (y := .null) (by rw [e2]; rfl) ?_
    refine lv_astore_nN (lv' := [(2, .null), (0, .ref xo), (1, .int rr)]) hx hb dX3_value_5 rfl hl (by decide) rfl (fun ls hl => ?_)
    refine lv_aload_nN hx hb dX3_value_6 rfl (lv_at hl 0 rfl) ?_
    refine lv_ifnonnullN hx hb dX3_value_7 ?_
    refine lv_iconst (v := 0) hx hb dX3_value_10 (by decide) ?_
    refine lv_goto (tgt := 18) hx hb dX3_value_11 (by decide) ?_
    exact W.iret (v := 0) hx hb hr (fun t ht hW => ⟨_, rfl, (kf_by_n e1).symm, ht⟩) (fun _ h => nomatch h) dX3_value_18
end
section
set_option maxHeartbeats 4000000 in
set_option maxRecDepth 100000 in
theorem c_X3_close (l : Launch) (G : kz_G) (xo hk hc ra : Nat) (rd0 : Nat) (ob0 : Bool) (pt0 hk0 aw0 az0 an0 nn0 : Nat) (fw0 : Nat → Int64) (zs0 : Nat → Nat) (fv0 : Nat → Int32) (rd1 : Nat) (ob1 : Bool) (pt1 hk1 aw1 az1 an1 nn1 : Nat) (fw1 : Nat → Int64) (zs1 : Nat → Nat) (fv1 : Nat → Int32) (rd2 : Nat) (ob2 : Bool) (pt2 hk2 aw2 az2 an2 nn2 : Nat) (fw2 : Nat → Int64) (zs2 : Nat → Nat) (fv2 : Nat → Int32) (rr : Int32) (sz : Nat) : Met l yX3_close wsX3_close { frames := 2, cells := 0, slots := 0, locals := 43 } (kz_Pm G [.ref xo, .int rr] [(xo, .inr (3, [.ref hk, .ref hc, .ref ra])), (ra, .inl (gO G, 3, .inr (.inr (.inr (.inr (kf_ra rd0 rd1 rd2)))))), (rd0, .inr (2, [.ref hk0, .int (kf_b ob0), .int (kf_p pt0)])), (hk0, .inr (1, [.ref aw0, .ref az0, .ref an0, .int (nI nn0)])), (aw0, .inl (gJ G, 120, .inr (.inl fw0))), (az0, .inl (gI G, 120, .inl (kz_z zs0))), (an0, .inl (gI G, 120, .inl fv0)), (rd1, .inr (2, [.ref hk1, .int (kf_b ob1), .int (kf_p pt1)])), (hk1, .inr (1, [.ref aw1, .ref az1, .ref an1, .int (nI nn1)])), (aw1, .inl (gJ G, 120, .inr (.inl fw1))), (az1, .inl (gI G, 120, .inl (kz_z zs1))), (an1, .inl (gI G, 120, .inl fv1)), (rd2, .inr (2, [.ref hk2, .int (kf_b ob2), .int (kf_p pt2)])), (hk2, .inr (1, [.ref aw2, .ref az2, .ref an2, .int (nI nn2)])), (aw2, .inl (gJ G, 120, .inr (.inl fw2))), (az2, .inl (gI G, 120, .inl (kz_z zs2))), (an2, .inl (gI G, 120, .inl fv2))] sz) (kz_Qi G (fun r w => ((rr = 0 ∧ ob0 = true) ∧ r = 1 ∧ w = [(xo, .inr (3, [.ref hk, .ref hc, .ref ra])), (ra, .inl (gO G, 3, .inr (.inr (.inr (.inr (kf_ra rd0 rd1 rd2)))))), (rd0, .inr (2, [.ref hk0, .int (kf_b false), .int (kf_p pt0)])), (hk0, .inr (1, [.ref aw0, .ref az0, .ref an0, .int (nI nn0)])), (aw0, .inl (gJ G, 120, .inr (.inl fw0))), (az0, .inl (gI G, 120, .inl (kz_z zs0))), (an0, .inl (gI G, 120, .inl fv0)), (rd1, .inr (2, [.ref hk1, .int (kf_b ob1), .int (kf_p pt1)])), (hk1, .inr (1, [.ref aw1, .ref az1, .ref an1, .int (nI nn1)])), (aw1, .inl (gJ G, 120, .inr (.inl fw1))), (az1, .inl (gI G, 120, .inl (kz_z zs1))), (an1, .inl (gI G, 120, .inl fv1)), (rd2, .inr (2, [.ref hk2, .int (kf_b ob2), .int (kf_p pt2)])), (hk2, .inr (1, [.ref aw2, .ref az2, .ref an2, .int (nI nn2)])), (aw2, .inl (gJ G, 120, .inr (.inl fw2))), (az2, .inl (gI G, 120, .inl (kz_z zs2))), (an2, .inl (gI G, 120, .inl fv2))]) ∨ ((rr = 1 ∧ ob1 = true) ∧ r = 1 ∧ w = [(xo, .inr (3, [.ref hk, .ref hc, .ref ra])), (ra, .inl (gO G, 3, .inr (.inr (.inr (.inr (kf_ra rd0 rd1 rd2)))))), (rd0, .inr (2, [.ref hk0, .int (kf_b ob0), .int (kf_p pt0)])), (hk0, .inr (1, [.ref aw0, .ref az0, .ref an0, .int (nI nn0)])), (aw0, .inl (gJ G, 120, .inr (.inl fw0))), (az0, .inl (gI G, 120, .inl (kz_z zs0))), (an0, .inl (gI G, 120, .inl fv0)), (rd1, .inr (2, [.ref hk1, .int (kf_b false), .int (kf_p pt1)])), (hk1, .inr (1, [.ref aw1, .ref az1, .ref an1, .int (nI nn1)])), (aw1, .inl (gJ G, 120, .inr (.inl fw1))), (az1, .inl (gI G, 120, .inl (kz_z zs1))), (an1, .inl (gI G, 120, .inl fv1)), (rd2, .inr (2, [.ref hk2, .int (kf_b ob2), .int (kf_p pt2)])), (hk2, .inr (1, [.ref aw2, .ref az2, .ref an2, .int (nI nn2)])), (aw2, .inl (gJ G, 120, .inr (.inl fw2))), (az2, .inl (gI G, 120, .inl (kz_z zs2))), (an2, .inl (gI G, 120, .inl fv2))]) ∨ ((rr = 2 ∧ ob2 = true) ∧ r = 1 ∧ w = [(xo, .inr (3, [.ref hk, .ref hc, .ref ra])), (ra, .inl (gO G, 3, .inr (.inr (.inr (.inr (kf_ra rd0 rd1 rd2)))))), (rd0, .inr (2, [.ref hk0, .int (kf_b ob0), .int (kf_p pt0)])), (hk0, .inr (1, [.ref aw0, .ref az0, .ref an0, .int (nI nn0)])), (aw0, .inl (gJ G, 120, .inr (.inl fw0))), (az0, .inl (gI G, 120, .inl (kz_z zs0))), (an0, .inl (gI G, 120, .inl fv0)), (rd1, .inr (2, [.ref hk1, .int (kf_b ob1), .int (kf_p pt1)])), (hk1, .inr (1, [.ref aw1, .ref az1, .ref an1, .int (nI nn1)])), (aw1, .inl (gJ G, 120, .inr (.inl fw1))), (az1, .inl (gI G, 120, .inl (kz_z zs1))), (an1, .inl (gI G, 120, .inl fv1)), (rd2, .inr (2, [.ref hk2, .int (kf_b false), .int (kf_p pt2)])), (hk2, .inr (1, [.ref aw2, .ref az2, .ref an2, .int (nI nn2)])), (aw2, .inl (gJ G, 120, .inr (.inl fw2))), (az2, .inl (gI G, 120, .inl (kz_z zs2))), (an2, .inl (gI G, 120, .inl fv2))]) ∨ (kf_no ob0 ob1 ob2 rr ∧ r = 0 ∧ w = [(xo, .inr (3, [.ref hk, .ref hc, .ref ra])), (ra, .inl (gO G, 3, .inr (.inr (.inr (.inr (kf_ra rd0 rd1 rd2)))))), (rd0, .inr (2, [.ref hk0, .int (kf_b ob0), .int (kf_p pt0)])), (hk0, .inr (1, [.ref aw0, .ref az0, .ref an0, .int (nI nn0)])), (aw0, .inl (gJ G, 120, .inr (.inl fw0))), (az0, .inl (gI G, 120, .inl (kz_z zs0))), (an0, .inl (gI G, 120, .inl fv0)), (rd1, .inr (2, [.ref hk1, .int (kf_b ob1), .int (kf_p pt1)])), (hk1, .inr (1, [.ref aw1, .ref az1, .ref an1, .int (nI nn1)])), (aw1, .inl (gJ G, 120, .inr (.inl fw1))), (az1, .inl (gI G, 120, .inl (kz_z zs1))), (an1, .inl (gI G, 120, .inl fv1)), (rd2, .inr (2, [.ref hk2, .int (kf_b ob2), .int (kf_p pt2)])), (hk2, .inr (1, [.ref aw2, .ref az2, .ref an2, .int (nI nn2)])), (aw2, .inl (gJ G, 120, .inr (.inl fw2))), (az2, .inl (gI G, 120, .inl (kz_z zs2))), (an2, .inl (gI G, 120, .inl fv2))])) (va_A [(xo, .inr (3, [.ref hk, .ref hc, .ref ra])), (ra, .inl (gO G, 3, .inr (.inr (.inr (.inr (kf_ra rd0 rd1 rd2)))))), (rd0, .inr (2, [.ref hk0, .int (kf_b ob0), .int (kf_p pt0)])), (hk0, .inr (1, [.ref aw0, .ref az0, .ref an0, .int (nI nn0)])), (aw0, .inl (gJ G, 120, .inr (.inl fw0))), (az0, .inl (gI G, 120, .inl (kz_z zs0))), (an0, .inl (gI G, 120, .inl fv0)), (rd1, .inr (2, [.ref hk1, .int (kf_b ob1), .int (kf_p pt1)])), (hk1, .inr (1, [.ref aw1, .ref az1, .ref an1, .int (nI nn1)])), (aw1, .inl (gJ G, 120, .inr (.inl fw1))), (az1, .inl (gI G, 120, .inl (kz_z zs1))), (an1, .inl (gI G, 120, .inl fv1)), (rd2, .inr (2, [.ref hk2, .int (kf_b ob2), .int (kf_p pt2)])), (hk2, .inr (1, [.ref aw2, .ref az2, .ref an2, .int (nI nn2)])), (aw2, .inl (gJ G, 120, .inr (.inl fw2))), (az2, .inl (gI G, 120, .inl (kz_z zs2))), (an2, .inl (gI G, 120, .inl fv2))] sz)) 0 0 (va_A [(xo, .inr (3, [.ref hk, .ref hc, .ref ra])), (ra, .inl (gO G, 3, .inr (.inr (.inr (.inr (kf_ra rd0 rd1 rd2)))))), (rd0, .inr (2, [.ref hk0, .int (kf_b ob0), .int (kf_p pt0)])), (hk0, .inr (1, [.ref aw0, .ref az0, .ref an0, .int (nI nn0)])), (aw0, .inl (gJ G, 120, .inr (.inl fw0))), (az0, .inl (gI G, 120, .inl (kz_z zs0))), (an0, .inl (gI G, 120, .inl fv0)), (rd1, .inr (2, [.ref hk1, .int (kf_b ob1), .int (kf_p pt1)])), (hk1, .inr (1, [.ref aw1, .ref az1, .ref an1, .int (nI nn1)])), (aw1, .inl (gJ G, 120, .inr (.inl fw1))), (az1, .inl (gI G, 120, .inl (kz_z zs1))), (an1, .inl (gI G, 120, .inl fv1)), (rd2, .inr (2, [.ref hk2, .int (kf_b ob2), .int (kf_p pt2)])), (hk2, .inr (1, [.ref aw2, .ref az2, .ref an2, .int (nI nn2)])), (aw2, .inl (gJ G, 120, .inr (.inl fw2))), (az2, .inl (gI G, 120, .inl (kz_z zs2))), (an2, .inl (gI G, 120, .inl fv2))] sz) := by
  refine Met.ofW (cc := cX3_close) (maxL := 3) (ret := (some .boolean)) (by decide) rfl ?_
  intro p e s m args below meth c s₁ B hml hv
  obtain ⟨rfl, hsz, hP, hK, hD0⟩ := hv
  have hx := B.exec
  have hb := B.bytes
  have hr := B.returns
  have hts := atoms_spec (ws := wsX3_close) B.pre
  have hown : s.vm.findClass RX3 = some m.cls := findClass_of_methodNamed B.named
  have hlocks := B.notSynchronized
  subst hsz
  have hD := hD0.self (sz := s.heap.size)
  generalize hAe : va_A [(xo, .inr (3, [.ref hk, .ref hc, .ref ra])), (ra, .inl (gO G, 3, .inr (.inr (.inr (.inr (kf_ra rd0 rd1 rd2)))))), (rd0, .inr (2, [.ref hk0, .int (kf_b ob0), .int (kf_p pt0)])), (hk0, .inr (1, [.ref aw0, .ref az0, .ref an0, .int (nI nn0)])), (aw0, .inl (gJ G, 120, .inr (.inl fw0))), (az0, .inl (gI G, 120, .inl (kz_z zs0))), (an0, .inl (gI G, 120, .inl fv0)), (rd1, .inr (2, [.ref hk1, .int (kf_b ob1), .int (kf_p pt1)])), (hk1, .inr (1, [.ref aw1, .ref az1, .ref an1, .int (nI nn1)])), (aw1, .inl (gJ G, 120, .inr (.inl fw1))), (az1, .inl (gI G, 120, .inl (kz_z zs1))), (an1, .inl (gI G, 120, .inl fv1)), (rd2, .inr (2, [.ref hk2, .int (kf_b ob2), .int (kf_p pt2)])), (hk2, .inr (1, [.ref aw2, .ref az2, .ref an2, .int (nI nn2)])), (aw2, .inl (gJ G, 120, .inr (.inl fw2))), (az2, .inl (gI G, 120, .inl (kz_z zs2))), (an2, .inl (gI G, 120, .inl fv2))] s.heap.size = A at hD ⊢
  have hA : ∀ q : Nat, s.heap.size ≤ q → A q := fun q h => by rw [← hAe]; exact Or.inr h
  have hS : va_S A s.heap s.heap [] := va_S.rf
  have hP : va_P G.1 vwCl [(xo, .inr (3, [.ref hk, .ref hc, .ref ra])), (ra, .inl (gO G, 3, .inr (.inr (.inr (.inr (kf_ra rd0 rd1 rd2)))))), (rd0, .inr (2, [.ref hk0, .int (kf_b ob0), .int (kf_p pt0)])), (hk0, .inr (1, [.ref aw0, .ref az0, .ref an0, .int (nI nn0)])), (aw0, .inl (gJ G, 120, .inr (.inl fw0))), (az0, .inl (gI G, 120, .inl (kz_z zs0))), (an0, .inl (gI G, 120, .inl fv0)), (rd1, .inr (2, [.ref hk1, .int (kf_b ob1), .int (kf_p pt1)])), (hk1, .inr (1, [.ref aw1, .ref az1, .ref an1, .int (nI nn1)])), (aw1, .inl (gJ G, 120, .inr (.inl fw1))), (az1, .inl (gI G, 120, .inl (kz_z zs1))), (an1, .inl (gI G, 120, .inl fv1)), (rd2, .inr (2, [.ref hk2, .int (kf_b ob2), .int (kf_p pt2)])), (hk2, .inr (1, [.ref aw2, .ref az2, .ref an2, .int (nI nn2)])), (aw2, .inl (gJ G, 120, .inr (.inl fw2))), (az2, .inl (gI G, 120, .inl (kz_z zs2))), (an2, .inl (gI G, 120, .inl fv2))] s.heap := hP
  have hl := lv_entry ([.ref xo, .int rr]) (n := 3) (Nat.le_of_ble_eq_true rfl)
  rw [lg_entry_eq]
  generalize (lg_sl ([.ref xo, .int rr]) ++ List.replicate (3 - (lg_sl ([.ref xo, .int rr])).length) Slot.unset).toArray = ls at hl ⊢
  have hl : lv_has ls 3 [(0, .ref xo), (1, .int rr)] := hl
  refine lv_aload_n hx hb dX3_close_0 rfl (lv_at hl 0 rfl) ?_
  refine lv_iload_n hx hb dX3_close_1 rfl (lv_at hl 1 rfl) ?_
  have hPc := hP.sub (ws' := [(xo, .inr (3, [.ref hk, .ref hc, .ref ra])), (ra, .inl (gO G, 3, .inr (.inr (.inr (.inr (kf_ra rd0 rd1 rd2)))))), (rd0, .inr (2, [.ref hk0, .int (kf_b ob0), .int (kf_p pt0)])), (hk0, .inr (1, [.ref aw0, .ref az0, .ref an0, .int (nI nn0)])), (aw0, .inl (gJ G, 120, .inr (.inl fw0))), (az0, .inl (gI G, 120, .inl (kz_z zs0))), (an0, .inl (gI G, 120, .inl fv0)), (rd1, .inr (2, [.ref hk1, .int (kf_b ob1), .int (kf_p pt1)])), (hk1, .inr (1, [.ref aw1, .ref az1, .ref an1, .int (nI nn1)])), (aw1, .inl (gJ G, 120, .inr (.inl fw1))), (az1, .inl (gI G, 120, .inl (kz_z zs1))), (an1, .inl (gI G, 120, .inl fv1)), (rd2, .inr (2, [.ref hk2, .int (kf_b ob2), .int (kf_p pt2)])), (hk2, .inr (1, [.ref aw2, .ref az2, .ref an2, .int (nI nn2)])), (aw2, .inl (gJ G, 120, .inr (.inl fw2))), (az2, .inl (gI G, 120, .inl (kz_z zs2))), (an2, .inl (gI G, 120, .inl fv2))]) [0, 1, 2, 3, 4, 5, 6, 7, 8, 9, 10, 11, 12, 13, 14, 15, 16] rfl
  refine kz_cq (v := kf_ord rd0 rd1 rd2 ob0 ob1 ob2 rr) (va_runV (As := [.int rr]) (rest := []) ⟨hx, hb, hml, hown, hts⟩ (c_X3_openReaderOrNull l G xo hk hc ra rd0 ob0 pt0 hk0 aw0 az0 an0 nn0 fw0 zs0 fv0 rd1 ob1 pt1 hk1 aw1 az1 an1 nn1 fw1 zs1 fv1 rd2 ob2 pt2 hk2 aw2 az2 an2 nn2 fw2 zs2 fv2 rr) (cwV 1 hts gX3_close_X3_openReaderOrNull rfl rfl rfl (by decide +kernel) ⟨Nat.le_of_ble_eq_true rfl, Nat.le_of_ble_eq_true rfl⟩) (kz_pv hK hPc (va_recv hK.1 hPc (ci := 3) (q0 := 0) rfl rfl)) rfl rfl hl.1 rfl (lv_room (Nat.le_of_ble_eq_true rfl)) dX3_close_2 ⟨Nat.zero_le _, Nat.zero_le _⟩).run ?_
  rcases kf_ord_c rd0 rd1 rd2 ob0 ob1 ob2 rr with ⟨e1, e2⟩ | ⟨e1, e2⟩ | ⟨e1, e2⟩ | ⟨e1, e2⟩
  · refine kz_asq (y := .ref rd0) (by rw [e2]; rfl) ?_
    refine lv_astore_n (lv' := [(2, .ref rd0), (0, .ref xo), (1, .int rr)]) hx hb dX3_close_5 rfl hl (by decide) rfl (fun ls hl => ?_)
    refine lv_aload_n hx hb dX3_close_6 rfl (lv_at hl 0 rfl) ?_
    refine lv_ifnonnull (tgt := 12) hx hb dX3_close_7 (by decide) ?_
    refine lv_aload_n hx hb dX3_close_12 rfl (lv_at hl 0 rfl) ?_
    have hPc := hP.sub (ws' := [(rd0, .inr (2, [.ref hk0, .int (kf_b ob0), .int (kf_p pt0)])), (hk0, .inr (1, [.ref aw0, .ref az0, .ref an0, .int (nI nn0)])), (aw0, .inl (gJ G, 120, .inr (.inl fw0))), (az0, .inl (gI G, 120, .inl (kz_z zs0))), (an0, .inl (gI G, 120, .inl fv0))]) [2, 3, 4, 5, 6] rfl
    have hDc := hD.sub (ws' := [(rd0, .inr (2, [.ref hk0, .int (kf_b ob0), .int (kf_p pt0)])), (hk0, .inr (1, [.ref aw0, .ref az0, .ref an0, .int (nI nn0)])), (aw0, .inl (gJ G, 120, .inr (.inl fw0))), (az0, .inl (gI G, 120, .inl (kz_z zs0))), (an0, .inl (gI G, 120, .inl fv0))]) [2, 3, 4, 5, 6] (by decide) rfl
    have hFc := va_free (wc := [(rd0, .inr (2, [.ref hk0, .int (kf_b ob0), .int (kf_p pt0)])), (hk0, .inr (1, [.ref aw0, .ref az0, .ref an0, .int (nI nn0)])), (aw0, .inl (gJ G, 120, .inr (.inl fw0))), (az0, .inl (gI G, 120, .inl (kz_z zs0))), (an0, .inl (gI G, 120, .inl fv0))]) hD hS hA [2, 3, 4, 5, 6] rfl
    refine va_callv (va_runV (As := []) (rest := []) ⟨hx, hb, hml, hown, hts⟩ (c_X2_end l G rd0 ob0 pt0 hk0 aw0 az0 an0 nn0 fw0 (kz_z zs0) fv0 _) (cwV 0 hts gX3_close_X2_end rfl rfl rfl (by decide +kernel) ⟨Nat.le_of_ble_eq_true rfl, Nat.le_of_ble_eq_true rfl⟩) (kz_pvm hK hPc hDc (va_recv hK.1 hPc (ci := 2) (q0 := 0) rfl rfl)) rfl rfl hl.1 rfl (lv_room (Nat.le_of_ble_eq_true rfl)) dX3_close_13 ⟨Nat.zero_le _, Nat.zero_le _⟩) hS (fun q _ h => hFc q h) hFc (fun u t H locs ht hvm hw hB hqz9 hqk9 hS => ?_)
    have hw : u = [(rd0, .inr (2, [.ref hk0, .int (kf_b false), .int (kf_p pt0)])), (hk0, .inr (1, [.ref aw0, .ref az0, .ref an0, .int (nI nn0)])), (aw0, .inl (gJ G, 120, .inr (.inl fw0))), (az0, .inl (gI G, 120, .inl (kz_z zs0))), (an0, .inl (gI G, 120, .inl fv0))] := hw
    have hB : va_P G.1 vwCl u H := by rw [← ht]; exact hB
    rw [hw] at hB
    obtain ⟨hP, hD⟩ := kz_join (wc := [(rd0, .inr (2, [.ref hk0, .int (kf_b ob0), .int (kf_p pt0)])), (hk0, .inr (1, [.ref aw0, .ref az0, .ref an0, .int (nI nn0)])), (aw0, .inl (gJ G, 120, .inr (.inl fw0))), (az0, .inl (gI G, 120, .inl (kz_z zs0))), (an0, .inl (gI G, 120, .inl fv0))]) (w1 := [(rd0, .inr (2, [.ref hk0, .int (kf_b false), .int (kf_p pt0)])), (hk0, .inr (1, [.ref aw0, .ref az0, .ref an0, .int (nI nn0)])), (aw0, .inl (gJ G, 120, .inr (.inl fw0))), (az0, .inl (gI G, 120, .inl (kz_z zs0))), (an0, .inl (gI G, 120, .inl fv0))]) hP hD [2, 3, 4, 5, 6] rfl (by decide) rfl hqk9 hB
    have hP : va_P G.1 vwCl [(xo, .inr (3, [.ref hk, .ref hc, .ref ra])), (ra, .inl (gO G, 3, .inr (.inr (.inr (.inr (kf_ra rd0 rd1 rd2)))))), (rd0, .inr (2, [.ref hk0, .int (kf_b false), .int (kf_p pt0)])), (hk0, .inr (1, [.ref aw0, .ref az0, .ref an0, .int (nI nn0)])), (aw0, .inl (gJ G, 120, .inr (.inl fw0))), (az0, .inl (gI G, 120, .inl (kz_z zs0))), (an0, .inl (gI G, 120, .inl fv0)), (rd1, .inr (2, [.ref hk1, .int (kf_b ob1), .int (kf_p pt1)])), (hk1, .inr (1, [.ref aw1, .ref az1, .ref an1, .int (nI nn1)])), (aw1, .inl (gJ G, 120, .inr (.inl fw1))), (az1, .inl (gI G, 120, .inl (kz_z zs1))), (an1, .inl (gI G, 120, .inl fv1)), (rd2, .inr (2, [.ref hk2, .int (kf_b ob2), .int (kf_p pt2)])), (hk2, .inr (1, [.ref aw2, .ref az2, .ref an2, .int (nI nn2)])), (aw2, .inl (gJ G, 120, .inr (.inl fw2))), (az2, .inl (gI G, 120, .inl (kz_z zs2))), (an2, .inl (gI G, 120, .inl fv2))] H := hP
    have hD : va_D A [(xo, .inr (3, [.ref hk, .ref hc, .ref ra])), (ra, .inl (gO G, 3, .inr (.inr (.inr (.inr (kf_ra rd0 rd1 rd2)))))), (rd0, .inr (2, [.ref hk0, .int (kf_b false), .int (kf_p pt0)])), (hk0, .inr (1, [.ref aw0, .ref az0, .ref an0, .int (nI nn0)])), (aw0, .inl (gJ G, 120, .inr (.inl fw0))), (az0, .inl (gI G, 120, .inl (kz_z zs0))), (an0, .inl (gI G, 120, .inl fv0)), (rd1, .inr (2, [.ref hk1, .int (kf_b ob1), .int (kf_p pt1)])), (hk1, .inr (1, [.ref aw1, .ref az1, .ref an1, .int (nI nn1)])), (aw1, .inl (gJ G, 120, .inr (.inl fw1))), (az1, .inl (gI G, 120, .inl (kz_z zs1))), (an1, .inl (gI G, 120, .inl fv1)), (rd2, .inr (2, [.ref hk2, .int (kf_b ob2), .int (kf_p pt2)])), (hk2, .inr (1, [.ref aw2, .ref az2, .ref an2, .int (nI nn2)])), (aw2, .inl (gJ G, 120, .inr (.inl fw2))), (az2, .inl (gI G, 120, .inl (kz_z zs2))), (an2, .inl (gI G, 120, .inl fv2))] := hD
    refine lv_iconst (v := 1) hx hb dX3_close_16 (by decide) ?_
    exact W.zret (v := 1) hx hb hr rfl (fun t ht hW => ⟨⟨_, ([(xo, .inr (3, [.ref hk, .ref hc, .ref ra])), (ra, .inl (gO G, 3, .inr (.inr (.inr (.inr (kf_ra rd0 rd1 rd2)))))), (rd0, .inr (2, [.ref hk0, .int (kf_b false), .int (kf_p pt0)])), (hk0, .inr (1, [.ref aw0, .ref az0, .ref an0, .int (nI nn0)])), (aw0, .inl (gJ G, 120, .inr (.inl fw0))), (az0, .inl (gI G, 120, .inl (kz_z zs0))), (an0, .inl (gI G, 120, .inl fv0)), (rd1, .inr (2, [.ref hk1, .int (kf_b ob1), .int (kf_p pt1)])), (hk1, .inr (1, [.ref aw1, .ref az1, .ref an1, .int (nI nn1)])), (aw1, .inl (gJ G, 120, .inr (.inl fw1))), (az1, .inl (gI G, 120, .inl (kz_z zs1))), (an1, .inl (gI G, 120, .inl fv1)), (rd2, .inr (2, [.ref hk2, .int (kf_b ob2), .int (kf_p pt2)])), (hk2, .inr (1, [.ref aw2, .ref az2, .ref an2, .int (nI nn2)])), (aw2, .inl (gJ G, 120, .inr (.inl fw2))), (az2, .inl (gI G, 120, .inl (kz_z zs2))), (an2, .inl (gI G, 120, .inl fv2))] : va_W), rfl, (Or.inl (⟨e1, rfl, rfl⟩)), by rw [← ht] at hP; exact hP⟩, hS.F ht⟩) hS.2.2 dX3_close_17
  · refine kz_asq (y := .ref rd1) (by rw [e2]; rfl) ?_
    refine lv_astore_n (lv' := [(2, .ref rd1), (0, .ref xo), (1, .int rr)]) hx hb dX3_close_5 rfl hl (by decide) rfl (fun ls hl => ?_)
    refine lv_aload_n hx hb dX3_close_6 rfl (lv_at hl 0 rfl) ?_
    refine lv_ifnonnull (tgt := 12) hx hb dX3_close_7 (by decide) ?_
    refine lv_aload_n hx hb dX3_close_12 rfl (lv_at hl 0 rfl) ?_
    have hPc := hP.sub (ws' := [(rd1, .inr (2, [.ref hk1, .int (kf_b ob1), .int (kf_p pt1)])), (hk1, .inr (1, [.ref aw1, .ref az1, .ref an1, .int (nI nn1)])), (aw1, .inl (gJ G, 120, .inr (.inl fw1))), (az1, .inl (gI G, 120, .inl (kz_z zs1))), (an1, .inl (gI G, 120, .inl fv1))]) [7, 8, 9, 10, 11] rfl
    have hDc := hD.sub (ws' := [(rd1, .inr (2, [.ref hk1, .int (kf_b ob1), .int (kf_p pt1)])), (hk1, .inr (1, [.ref aw1, .ref az1, .ref an1, .int (nI nn1)])), (aw1, .inl (gJ G, 120, .inr (.inl fw1))), (az1, .inl (gI G, 120, .inl (kz_z zs1))), (an1, .inl (gI G, 120, .inl fv1))]) [7, 8, 9, 10, 11] (by decide) rfl
    have hFc := va_free (wc := [(rd1, .inr (2, [.ref hk1, .int (kf_b ob1), .int (kf_p pt1)])), (hk1, .inr (1, [.ref aw1, .ref az1, .ref an1, .int (nI nn1)])), (aw1, .inl (gJ G, 120, .inr (.inl fw1))), (az1, .inl (gI G, 120, .inl (kz_z zs1))), (an1, .inl (gI G, 120, .inl fv1))]) hD hS hA [7, 8, 9, 10, 11] rfl
    refine va_callv (va_runV (As := []) (rest := []) ⟨hx, hb, hml, hown, hts⟩ (c_X2_end l G rd1 ob1 pt1 hk1 aw1 az1 an1 nn1 fw1 (kz_z zs1) fv1 _) (cwV 0 hts gX3_close_X2_end rfl rfl rfl (by decide +kernel) ⟨Nat.le_of_ble_eq_true rfl, Nat.le_of_ble_eq_true rfl⟩) (kz_pvm hK hPc hDc (va_recv hK.1 hPc (ci := 2) (q0 := 0) rfl rfl)) rfl rfl hl.1 rfl (lv_room (Nat.le_of_ble_eq_true rfl)) dX3_close_13 ⟨Nat.zero_le _, Nat.zero_le _⟩) hS (fun q _ h => hFc q h) hFc (fun u t H locs ht hvm hw hB hqz9 hqk9 hS => ?_)
    have hw : u = [(rd1, .inr (2, [.ref hk1, .int (kf_b false), .int (kf_p pt1)])), (hk1, .inr (1, [.ref aw1, .ref az1, .ref an1, .int (nI nn1)])), (aw1, .inl (gJ G, 120, .inr (.inl fw1))), (az1, .inl (gI G, 120, .inl (kz_z zs1))), (an1, .inl (gI G, 120, .inl fv1))] := hw
    have hB : va_P G.1 vwCl u H := by rw [← ht]; exact hB
    rw [hw] at hB
    obtain ⟨hP, hD⟩ := kz_join (wc := [(rd1, .inr (2, [.ref hk1, .int (kf_b ob1), .int (kf_p pt1)])), (hk1, .inr (1, [.ref aw1, .ref az1, .ref an1, .int (nI nn1)])), (aw1, .inl (gJ G, 120, .inr (.inl fw1))), (az1, .inl (gI G, 120, .inl (kz_z zs1))), (an1, .inl (gI G, 120, .inl fv1))]) (w1 := [(rd1, .inr (2, [.ref hk1, .int (kf_b false), .int (kf_p pt1)])), (hk1, .inr (1, [.ref aw1, .ref az1, .ref an1, .int (nI nn1)])), (aw1, .inl (gJ G, 120, .inr (.inl fw1))), (az1, .inl (gI G, 120, .inl (kz_z zs1))), (an1, .inl (gI G, 120, .inl fv1))]) hP hD [7, 8, 9, 10, 11] rfl (by decide) rfl hqk9 hB
    have hP : va_P G.1 vwCl [(xo, .inr (3, [.ref hk, .ref hc, .ref ra])), (ra, .inl (gO G, 3, .inr (.inr (.inr (.inr (kf_ra rd0 rd1 rd2)))))), (rd0, .inr (2, [.ref hk0, .int (kf_b ob0), .int (kf_p pt0)])), (hk0, .inr (1, [.ref aw0, .ref az0, .ref an0, .int (nI nn0)])), (aw0, .inl (gJ G, 120, .inr (.inl fw0))), (az0, .inl (gI G, 120, .inl (kz_z zs0))), (an0, .inl (gI G, 120, .inl fv0)), (rd1, .inr (2, [.ref hk1, .int (kf_b false), .int (kf_p pt1)])), (hk1, .inr (1, [.ref aw1, .ref az1, .ref an1, .int (nI nn1)])), (aw1, .inl (gJ G, 120, .inr (.inl fw1))), (az1, .inl (gI G, 120, .inl (kz_z zs1))), (an1, .inl (gI G, 120, .inl fv1)), (rd2, .inr (2, [.ref hk2, .int (kf_b ob2), .int (kf_p pt2)])), (hk2, .inr (1, [.ref aw2, .ref az2, .ref an2, .int (nI nn2)])), (aw2, .inl (gJ G, 120, .inr (.inl fw2))), (az2, .inl (gI G, 120, .inl (kz_z zs2))), (an2, .inl (gI G, 120, .inl fv2))] H := hP
    have hD : va_D A [(xo, .inr (3, [.ref hk, .ref hc, .ref ra])), (ra, .inl (gO G, 3, .inr (.inr (.inr (.inr (kf_ra rd0 rd1 rd2)))))), (rd0, .inr (2, [.ref hk0, .int (kf_b ob0), .int (kf_p pt0)])), (hk0, .inr (1, [.ref aw0, .ref az0, .ref an0, .int (nI nn0)])), (aw0, .inl (gJ G, 120, .inr (.inl fw0))), (az0, .inl (gI G, 120, .inl (kz_z zs0))), (an0, .inl (gI G, 120, .inl fv0)), (rd1, .inr (2, [.ref hk1, .int (kf_b false), .int (kf_p pt1)])), (hk1, .inr (1, [.ref aw1, .ref az1, .ref an1, .int (nI nn1)])), (aw1, .inl (gJ G, 120, .inr (.inl fw1))), (az1, .inl (gI G, 120, .inl (kz_z zs1))), (an1, .inl (gI G, 120, .inl fv1)), (rd2, .inr (2, [.ref hk2, .int (kf_b ob2), .int (kf_p pt2)])), (hk2, .inr (1, [.ref aw2, .ref az2, .ref an2, .int (nI nn2)])), (aw2, .inl (gJ G, 120, .inr (.inl fw2))), (az2, .inl (gI G, 120, .inl (kz_z zs2))), (an2, .inl (gI G, 120, .inl fv2))] := hD
    refine lv_iconst (v := 1) hx hb dX3_close_16 (by decide) ?_
    exact W.zret (v := 1) hx hb hr rfl (fun t ht hW => ⟨⟨_, ([(xo, .inr (3, [.ref hk, .ref hc, .ref ra])), (ra, .inl (gO G, 3, .inr (.inr (.inr (.inr (kf_ra rd0 rd1 rd2)))))), (rd0, .inr (2, [.ref hk0, .int (kf_b ob0), .int (kf_p pt0)])), (hk0, .inr (1, [.ref aw0, .ref az0, .ref an0, .int (nI nn0)])), (aw0, .inl (gJ G, 120, .inr (.inl fw0))), (az0, .inl (gI G, 120, .inl (kz_z zs0))), (an0, .inl (gI G, 120, .inl fv0)), (rd1, .inr (2, [.ref hk1, .int (kf_b false), .int (kf_p pt1)])), (hk1, .inr (1, [.ref aw1, .ref az1, .ref an1, .int (nI nn1)])), (aw1, .inl (gJ G, 120, .inr (.inl fw1))), (az1, .inl (gI G, 120, .inl (kz_z zs1))), (an1, .inl (gI G, 120, .inl fv1)), (rd2, .inr (2, [.ref hk2, .int (kf_b ob2), .int (kf_p pt2)])), (hk2, .inr (1, [.ref aw2, .ref az2, .ref an2, .int (nI nn2)])), (aw2, .inl (gJ G, 120, .inr (.inl fw2))), (az2, .inl (gI G, 120, .inl (kz_z zs2))), (an2, .inl (gI G, 120, .inl fv2))] : va_W), rfl, (Or.inr (Or.inl (⟨e1, rfl, rfl⟩))), by rw [← ht] at hP; exact hP⟩, hS.F ht⟩) hS.2.2 dX3_close_17
  · refine kz_asq (y := .ref rd2) (by rw [e2]; rfl) ?_
    refine lv_astore_n (lv' := [(2, .ref rd2), (0, .ref xo), (1, .int rr)]) hx hb dX3_close_5 rfl hl (by decide) rfl (fun ls hl => ?_)
    refine lv_aload_n hx hb dX3_close_6 rfl (lv_at hl 0 rfl) ?_
    refine lv_ifnonnull (tgt := 12) hx hb dX3_close_7 (by decide) ?_
    refine lv_aload_n hx hb dX3_close_12 rfl (lv_at hl 0 rfl) ?_
    have hPc := hP.sub (ws' := [(rd2, .inr (2, [.ref hk2, .int (kf_b ob2), .int (kf_p pt2)])), (hk2, .inr (1, [.ref aw2, .ref az2, .ref an2, .int (nI nn2)])), (aw2, .inl (gJ G, 120, .inr (.inl fw2))), (az2, .inl (gI G, 120, .inl (kz_z zs2))), (an2, .inl (gI G, 120, .inl fv2))]) [12, 13, 14, 15, 16] rfl
    have hDc := hD.sub (ws' := [(rd2, .inr (2, [.ref hk2, .int (kf_b ob2), .int (kf_p pt2)])), (hk2, .inr (1, [.ref aw2, .ref az2, .ref an2, .int (nI nn2)])), (aw2, .inl (gJ G, 120, .inr (.inl fw2))), (az2, .inl (gI G, 120, .inl (kz_z zs2))), (an2, .inl (gI G, 120, .inl fv2))]) [12, 13, 14, 15, 16] (by decide) rfl
    have hFc := va_free (wc := [(rd2, .inr (2, [.ref hk2, .int (kf_b ob2), .int (kf_p pt2)])), (hk2, .inr (1, [.ref aw2, .ref az2, .ref an2, .int (nI nn2)])), (aw2, .inl (gJ G, 120, .inr (.inl fw2))), (az2, .inl (gI G, 120, .inl (kz_z zs2))), (an2, .inl (gI G, 120, .inl fv2))]) hD hS hA [12, 13, 14, 15, 16] rfl
    refine va_callv (va_runV (As := []) (rest := []) ⟨hx, hb, hml, hown, hts⟩ (c_X2_end l G rd2 ob2 pt2 hk2 aw2 az2 an2 nn2 fw2 (kz_z zs2) fv2 _) (cwV 0 hts gX3_close_X2_end rfl rfl rfl (by decide +kernel) ⟨Nat.le_of_ble_eq_true rfl, Nat.le_of_ble_eq_true rfl⟩) (kz_pvm hK hPc hDc (va_recv hK.1 hPc (ci := 2) (q0 := 0) rfl rfl)) rfl rfl hl.1 rfl (lv_room (Nat.le_of_ble_eq_true rfl)) dX3_close_13 ⟨Nat.zero_le _, Nat.zero_le _⟩) hS (fun q _ h => hFc q h) hFc (fun u t H locs ht hvm hw hB hqz9 hqk9 hS => ?_)
    have hw : u = [(rd2, .inr (2, [.ref hk2, .int (kf_b false), .int (kf_p pt2)])), (hk2, .inr (1, [.ref aw2, .ref az2, .ref an2, .int (nI nn2)])), (aw2, .inl (gJ G, 120, .inr (.inl fw2))), (az2, .inl (gI G, 120, .inl (kz_z zs2))), (an2, .inl (gI G, 120, .inl fv2))] := hw
    have hB : va_P G.1 vwCl u H := by rw [← ht]; exact hB
    rw [hw] at hB
    obtain ⟨hP, hD⟩ := kz_join (wc := [(rd2, .inr (2, [.ref hk2, .int (kf_b ob2), .int (kf_p pt2)])), (hk2, .inr (1, [.ref aw2, .ref az2, .ref an2, .int (nI nn2)])), (aw2, .inl (gJ G, 120, .inr (.inl fw2))), (az2, .inl (gI G, 120, .inl (kz_z zs2))), (an2, .inl (gI G, 120, .inl fv2))]) (w1 := [(rd2, .inr (2, [.ref hk2, .int (kf_b false), .int (kf_p pt2)])), (hk2, .inr (1, [.ref aw2, .ref az2, .ref an2, .int (nI nn2)])), (aw2, .inl (gJ G, 120, .inr (.inl fw2))), (az2, .inl (gI G, 120, .inl (kz_z zs2))), (an2, .inl (gI G, 120, .inl fv2))]) hP hD [12, 13, 14, 15, 16] rfl (by decide) rfl hqk9 hB
    have hP : va_P G.1 vwCl [(xo, .inr (3, [.ref hk, .ref hc, .ref ra])), (ra, .inl (gO G, 3, .inr (.inr (.inr (.inr (kf_ra rd0 rd1 rd2)))))), (rd0, .inr (2, [.ref hk0, .int (kf_b ob0), .int (kf_p pt0)])), (hk0, .inr (1, [.ref aw0, .ref az0, .ref an0, .int (nI nn0)])), (aw0, .inl (gJ G, 120, .inr (.inl fw0))), (az0, .inl (gI G, 120, .inl (kz_z zs0))), (an0, .inl (gI G, 120, .inl fv0)), (rd1, .inr (2, [.ref hk1, .int (kf_b ob1), .int (kf_p pt1)])), (hk1, .inr (1, [.ref aw1, .ref az1, .ref an1, .int (nI nn1)])), (aw1, .inl (gJ G, 120, .inr (.inl fw1))), (az1, .inl (gI G, 120, .inl (kz_z zs1))), (an1, .inl (gI G, 120, .inl fv1)), (rd2, .inr (2, [.ref hk2, .int (kf_b false), .int (kf_p pt2)])), (hk2, .inr (1, [.ref aw2, .ref az2, .ref an2, .int (nI nn2)])), (aw2, .inl (gJ G, 120, .inr (.inl fw2))), (az2, .inl (gI G, 120, .inl (kz_z zs2))), (an2, .inl (gI G, 120, .inl fv2))] H := hP
    have hD : va_D A [(xo, .inr (3, [.ref hk, .ref hc, .ref ra])), (ra, .inl (gO G, 3, .inr (.inr (.inr (.inr (kf_ra rd0 rd1 rd2)))))), (rd0, .inr (2, [.ref hk0, .int (kf_b ob0), .int (kf_p pt0)])), (hk0, .inr (1, [.ref aw0, .ref az0, .ref an0, .int (nI nn0)])), (aw0, .inl (gJ G, 120, .inr (.inl fw0))), (az0, .inl (gI G, 120, .inl (kz_z zs0))), (an0, .inl (gI G, 120, .inl fv0)), (rd1, .inr (2, [.ref hk1, .int (kf_b ob1), .int (kf_p pt1)])), (hk1, .inr (1, [.ref aw1, .ref az1, .ref an1, .int (nI nn1)])), (aw1, .inl (gJ G, 120, .inr (.inl fw1))), (az1, .inl (gI G, 120, .inl (kz_z zs1))), (an1, .inl (gI G, 120, .inl fv1)), (rd2, .inr (2, [.ref hk2, .int (kf_b false), .int (kf_p pt2)])), (hk2, .inr (1, [.ref aw2, .ref az2, .ref an2, .int (nI nn2)])), (aw2, .inl (gJ G, 120, .inr (.inl fw2))), (az2, .inl (gI G, 120, .inl (kz_z zs2))), (an2, .inl (gI G, 120, .inl fv2))] := hD
    refine lv_iconst (v := 1) hx hb dX3_close_16 (by decide) ?_
    exact W.zret (v := 1) hx hb hr rfl (fun t ht hW => ⟨⟨_, ([(xo, .inr (3, [.ref hk, .ref hc, .ref ra])), (ra, .inl (gO G, 3, .inr (.inr (.inr (.inr (kf_ra rd0 rd1 rd2)))))), (rd0, .inr (2, [.ref hk0, .int (kf_b ob0), .int (kf_p pt0)])), (hk0, .inr (1, [.ref aw0, .ref az0, .ref an0, .int (nI nn0)])), (aw0, .inl (gJ G, 120, .inr (.inl fw0))), (az0, .inl (gI G, 120, .inl (kz_z zs0))), (an0, .inl (gI G, 120, .inl fv0)), (rd1, .inr (2, [.ref hk1, .int (kf_b ob1), .int (kf_p pt1)])), (hk1, .inr (1, [.ref aw1, .ref az1, .ref an1, .int (nI nn1)])), (aw1, .inl (gJ G, 120, .inr (.inl fw1))), (az1, .inl (gI G, 120, .inl (kz_z zs1))), (an1, .inl (gI G, 120, .inl fv1)), (rd2, .inr (2, [.ref hk2, .int (kf_b false), .int (kf_p pt2)])), (hk2, .inr (1, [.ref aw2, .ref az2, .ref an2, .int (nI nn2)])), (aw2, .inl (gJ G, 120, .inr (.inl fw2))), (az2, .inl (gI G, 120, .inl (kz_z zs2))), (an2, .inl (gI G, 120, .inl fv2))] : va_W), rfl, (Or.inr (Or.inr (Or.inl (⟨e1, rfl, rfl⟩)))), by rw [← ht] at hP; exact hP⟩, hS.F ht⟩) hS.2.2 dX3_close_17
  · refine kz_asq (y := .null) (by rw [e2]; rfl) ?_
    refine lv_astore_nN (lv' := [(2, .null), (0, .ref xo), (1, .int rr)]) hx hb dX3_close_5 rfl hl (by decide) rfl (fun ls hl => ?_)
    refine lv_aload_nN hx hb dX3_close_6 rfl (lv_at hl 0 rfl) ?_
    refine lv_ifnonnullN hx hb dX3_close_7 ?_
    refine lv_iconst (v := 0) hx hb dX3_close_10 (by decide) ?_
    exact W.zret (v := 0) hx hb hr rfl (fun t ht hW => ⟨⟨_, ([(xo, .inr (3, [.ref hk, .ref hc, .ref ra])), (ra, .inl (gO G, 3, .inr (.inr (.inr (.inr (kf_ra rd0 rd1 rd2)))))), (rd0, .inr (2, [.ref hk0, .int (kf_b ob0), .int (kf_p pt0)])), (hk0, .inr (1, [.ref aw0, .ref az0, .ref an0, .int (nI nn0)])), (aw0, .inl (gJ G, 120, .inr (.inl fw0))), (az0, .inl (gI G, 120, .inl (kz_z zs0))), (an0, .inl (gI G, 120, .inl fv0)), (rd1, .inr (2, [.ref hk1, .int (kf_b ob1), .int (kf_p pt1)])), (hk1, .inr (1, [.ref aw1, .ref az1, .ref an1, .int (nI nn1)])), (aw1, .inl (gJ G, 120, .inr (.inl fw1))), (az1, .inl (gI G, 120, .inl (kz_z zs1))), (an1, .inl (gI G, 120, .inl fv1)), (rd2, .inr (2, [.ref hk2, .int (kf_b ob2), .int (kf_p pt2)])), (hk2, .inr (1, [.ref aw2, .ref az2, .ref an2, .int (nI nn2)])), (aw2, .inl (gJ G, 120, .inr (.inl fw2))), (az2, .inl (gI G, 120, .inl (kz_z zs2))), (an2, .inl (gI G, 120, .inl fv2))] : va_W), rfl, (Or.inr (Or.inr (Or.inr (⟨e1, rfl, rfl⟩)))), by rw [← ht] at hP; exact hP⟩, hS.F ht⟩) hS.2.2 dX3_close_11

abbrev kf_nc (ob0 ob1 ob2 : Bool) (rr : Int32) : Prop := ¬ (rr = 0 ∧ ob0 = false) ∧ ¬ (rr = 1 ∧ ob1 = false) ∧ ¬ (rr = 2 ∧ ob2 = false)

set_option maxHeartbeats 4000000 in
set_option maxRecDepth 100000 in
theorem c_X3_open (l : Launch) (G : kz_G) (xo hk hc ra : Nat) (rd0 : Nat) (ob0 : Bool) (pt0 hk0 aw0 az0 an0 nn0 : Nat) (fw0 : Nat → Int64) (zs0 : Nat → Nat) (fv0 : Nat → Int32) (rd1 : Nat) (ob1 : Bool) (pt1 hk1 aw1 az1 an1 nn1 : Nat) (fw1 : Nat → Int64) (zs1 : Nat → Nat) (fv1 : Nat → Int32) (rd2 : Nat) (ob2 : Bool) (pt2 hk2 aw2 az2 an2 nn2 : Nat) (fw2 : Nat → Int64) (zs2 : Nat → Nat) (fv2 : Nat → Int32) (aw az an nn : Nat) (fw : Nat → Int64) (zs : Nat → Nat) (fv : Nat → Int32) (rr : Int32) (sz : Nat) (hn : nn ≤ 120) : Met l yX3_open wsX3_open { frames := 2, cells := 0, slots := 0, locals := 43 } (kz_Pm G [.ref xo, .int rr] [(xo, .inr (3, [.ref hk, .ref hc, .ref ra])), (ra, .inl (gO G, 3, .inr (.inr (.inr (.inr (kf_ra rd0 rd1 rd2)))))), (rd0, .inr (2, [.ref hk0, .int (kf_b ob0), .int (kf_p pt0)])), (hk0, .inr (1, [.ref aw0, .ref az0, .ref an0, .int (nI nn0)])), (aw0, .inl (gJ G, 120, .inr (.inl fw0))), (az0, .inl (gI G, 120, .inl (kz_z zs0))), (an0, .inl (gI G, 120, .inl fv0)), (rd1, .inr (2, [.ref hk1, .int (kf_b ob1), .int (kf_p pt1)])), (hk1, .inr (1, [.ref aw1, .ref az1, .ref an1, .int (nI nn1)])), (aw1, .inl (gJ G, 120, .inr (.inl fw1))), (az1, .inl (gI G, 120, .inl (kz_z zs1))), (an1, .inl (gI G, 120, .inl fv1)), (rd2, .inr (2, [.ref hk2, .int (kf_b ob2), .int (kf_p pt2)])), (hk2, .inr (1, [.ref aw2, .ref az2, .ref an2, .int (nI nn2)])), (aw2, .inl (gJ G, 120, .inr (.inl fw2))), (az2, .inl (gI G, 120, .inl (kz_z zs2))), (an2, .inl (gI G, 120, .inl fv2)), (hk, .inr (1, [.ref aw, .ref az, .ref an, .int (nI nn)])), (aw, .inl (gJ G, 120, .inr (.inl fw))), (az, .inl (gI G, 120, .inl (kz_z zs))), (an, .inl (gI G, 120, .inl fv))] sz) (kz_Qi G (fun r w => ((rr = 0 ∧ ob0 = false) ∧ r = 1 ∧ w = [(xo, .inr (3, [.ref hk, .ref hc, .ref ra])), (ra, .inl (gO G, 3, .inr (.inr (.inr (.inr (kf_ra rd0 rd1 rd2)))))), (rd0, .inr (2, [.ref hk0, .int (kf_b true), .int (kf_p 0)])), (hk0, .inr (1, [.ref aw0, .ref az0, .ref an0, .int (nI nn)])), (aw0, .inl (gJ G, 120, .inr (.inl (kf_cp fw fw0 nn)))), (az0, .inl (gI G, 120, .inl (kz_z (kf_cp zs zs0 nn)))), (an0, .inl (gI G, 120, .inl (kf_cp fv fv0 nn))), (rd1, .inr (2, [.ref hk1, .int (kf_b ob1), .int (kf_p pt1)])), (hk1, .inr (1, [.ref aw1, .ref az1, .ref an1, .int (nI nn1)])), (aw1, .inl (gJ G, 120, .inr (.inl fw1))), (az1, .inl (gI G, 120, .inl (kz_z zs1))), (an1, .inl (gI G, 120, .inl fv1)), (rd2, .inr (2, [.ref hk2, .int (kf_b ob2), .int (kf_p pt2)])), (hk2, .inr (1, [.ref aw2, .ref az2, .ref an2, .int (nI nn2)])), (aw2, .inl (gJ G, 120, .inr (.inl fw2))), (az2, .inl (gI G, 120, .inl (kz_z zs2))), (an2, .inl (gI G, 120, .inl fv2)), (hk, .inr (1, [.ref aw, .ref az, .ref an, .int (nI nn)])), (aw, .inl (gJ G, 120, .inr (.inl fw))), (az, .inl (gI G, 120, .inl (kz_z zs))), (an, .inl (gI G, 120, .inl fv))]) ∨ ((rr = 1 ∧ ob1 = false) ∧ r = 1 ∧ w = [(xo, .inr (3, [.ref hk, .ref hc, .ref ra])), (ra, .inl (gO G, 3, .inr (.inr (.inr (.inr (kf_ra rd0 rd1 rd2)))))), (rd0, .inr (2, [.ref hk0, .int (kf_b ob0), .int (kf_p pt0)])), (hk0, .inr (1, [.ref aw0, .ref az0, .ref an0, .int (nI nn0)])), (aw0, .inl (gJ G, 120, .inr (.inl fw0))), (az0, .inl (gI G, 120, .inl (kz_z zs0))), (an0, .inl (gI G, 120, .inl fv0)), (rd1, .inr (2, [.ref hk1, .int (kf_b true), .int (kf_p 0)])), (hk1, .inr (1, [.ref aw1, .ref az1, .ref an1, .int (nI nn)])), (aw1, .inl (gJ G, 120, .inr (.inl (kf_cp fw fw1 nn)))), (az1, .inl (gI G, 120, .inl (kz_z (kf_cp zs zs1 nn)))), (an1, .inl (gI G, 120, .inl (kf_cp fv fv1 nn))), (rd2, .inr (2, [.ref hk2, .int (kf_b ob2), .int (kf_p pt2)])), (hk2, .inr (1, [.ref aw2, .ref az2, .ref an2, .int (nI nn2)])), (aw2, .inl (gJ G, 120, .inr (.inl fw2))), (az2, .inl (gI G, 120, .inl (kz_z zs2))), (an2, .inl (gI G, 120, .inl fv2)), (hk, .inr (1, [.ref aw, .ref az, .ref an, .int (nI nn)])), (aw, .inl (gJ G, 120, .inr (.inl fw))), (az, .inl (gI G, 120, .inl (kz_z zs))), (an, .inl (gI G, 120, .inl fv))]) ∨ ((rr = 2 ∧ ob2 = false) ∧ r = 1 ∧ w = [(xo, .inr (3, [.ref hk, .ref hc, .ref ra])), (ra, .inl (gO G, 3, .inr (.inr (.inr (.inr (kf_ra rd0 rd1 rd2)))))), (rd0, .inr (2, [.ref hk0, .int (kf_b ob0), .int (kf_p pt0)])), (hk0, .inr (1, [.ref aw0, .ref az0, .ref an0, .int (nI nn0)])), (aw0, .inl (gJ G, 120, .inr (.inl fw0))), (az0, .inl (gI G, 120, .inl (kz_z zs0))), (an0, .inl (gI G, 120, .inl fv0)), (rd1, .inr (2, [.ref hk1, .int (kf_b ob1), .int (kf_p pt1)])), (hk1, .inr (1, [.ref aw1, .ref az1, .ref an1, .int (nI nn1)])), (aw1, .inl (gJ G, 120, .inr (.inl fw1))), (az1, .inl (gI G, 120, .inl (kz_z zs1))), (an1, .inl (gI G, 120, .inl fv1)), (rd2, .inr (2, [.ref hk2, .int (kf_b true), .int (kf_p 0)])), (hk2, .inr (1, [.ref aw2, .ref az2, .ref an2, .int (nI nn)])), (aw2, .inl (gJ G, 120, .inr (.inl (kf_cp fw fw2 nn)))), (az2, .inl (gI G, 120, .inl (kz_z (kf_cp zs zs2 nn)))), (an2, .inl (gI G, 120, .inl (kf_cp fv fv2 nn))), (hk, .inr (1, [.ref aw, .ref az, .ref an, .int (nI nn)])), (aw, .inl (gJ G, 120, .inr (.inl fw))), (az, .inl (gI G, 120, .inl (kz_z zs))), (an, .inl (gI G, 120, .inl fv))]) ∨ (kf_nc ob0 ob1 ob2 rr ∧ r = 0 ∧ w = [(xo, .inr (3, [.ref hk, .ref hc, .ref ra])), (ra, .inl (gO G, 3, .inr (.inr (.inr (.inr (kf_ra rd0 rd1 rd2)))))), (rd0, .inr (2, [.ref hk0, .int (kf_b ob0), .int (kf_p pt0)])), (hk0, .inr (1, [.ref aw0, .ref az0, .ref an0, .int (nI nn0)])), (aw0, .inl (gJ G, 120, .inr (.inl fw0))), (az0, .inl (gI G, 120, .inl (kz_z zs0))), (an0, .inl (gI G, 120, .inl fv0)), (rd1, .inr (2, [.ref hk1, .int (kf_b ob1), .int (kf_p pt1)])), (hk1, .inr (1, [.ref aw1, .ref az1, .ref an1, .int (nI nn1)])), (aw1, .inl (gJ G, 120, .inr (.inl fw1))), (az1, .inl (gI G, 120, .inl (kz_z zs1))), (an1, .inl (gI G, 120, .inl fv1)), (rd2, .inr (2, [.ref hk2, .int (kf_b ob2), .int (kf_p pt2)])), (hk2, .inr (1, [.ref aw2, .ref az2, .ref an2, .int (nI nn2)])), (aw2, .inl (gJ G, 120, .inr (.inl fw2))), (az2, .inl (gI G, 120, .inl (kz_z zs2))), (an2, .inl (gI G, 120, .inl fv2)), (hk, .inr (1, [.ref aw, .ref az, .ref an, .int (nI nn)])), (aw, .inl (gJ G, 120, .inr (.inl fw))), (az, .inl (gI G, 120, .inl (kz_z zs))), (an, .inl (gI G, 120, .inl fv))])) (va_A [(xo, .inr (3, [.ref hk, .ref hc, .ref ra])), (ra, .inl (gO G, 3, .inr (.inr (.inr (.inr (kf_ra rd0 rd1 rd2)))))), (rd0, .inr (2, [.ref hk0, .int (kf_b ob0), .int (kf_p pt0)])), (hk0, .inr (1, [.ref aw0, .ref az0, .ref an0, .int (nI nn0)])), (aw0, .inl (gJ G, 120, .inr (.inl fw0))), (az0, .inl (gI G, 120, .inl (kz_z zs0))), (an0, .inl (gI G, 120, .inl fv0)), (rd1, .inr (2, [.ref hk1, .int (kf_b ob1), .int (kf_p pt1)])), (hk1, .inr (1, [.ref aw1, .ref az1, .ref an1, .int (nI nn1)])), (aw1, .inl (gJ G, 120, .inr (.inl fw1))), (az1, .inl (gI G, 120, .inl (kz_z zs1))), (an1, .inl (gI G, 120, .inl fv1)), (rd2, .inr (2, [.ref hk2, .int (kf_b ob2), .int (kf_p pt2)])), (hk2, .inr (1, [.ref aw2, .ref az2, .ref an2, .int (nI nn2)])), (aw2, .inl (gJ G, 120, .inr (.inl fw2))), (az2, .inl (gI G, 120, .inl (kz_z zs2))), (an2, .inl (gI G, 120, .inl fv2)), (hk, .inr (1, [.ref aw, .ref az, .ref an, .int (nI nn)])), (aw, .inl (gJ G, 120, .inr (.inl fw))), (az, .inl (gI G, 120, .inl (kz_z zs))), (an, .inl (gI G, 120, .inl fv))] sz)) 0 0 (va_A [(xo, .inr (3, [.ref hk, .ref hc, .ref ra])), (ra, .inl (gO G, 3, .inr (.inr (.inr (.inr (kf_ra rd0 rd1 rd2)))))), (rd0, .inr (2, [.ref hk0, .int (kf_b ob0), .int (kf_p pt0)])), (hk0, .inr (1, [.ref aw0, .ref az0, .ref an0, .int (nI nn0)])), (aw0, .inl (gJ G, 120, .inr (.inl fw0))), (az0, .inl (gI G, 120, .inl (kz_z zs0))), (an0, .inl (gI G, 120, .inl fv0)), (rd1, .inr (2, [.ref hk1, .int (kf_b ob1), .int (kf_p pt1)])), (hk1, .inr (1, [.ref aw1, .ref az1, .ref an1, .int (nI nn1)])), (aw1, .inl (gJ G, 120, .inr (.inl fw1))), (az1, .inl (gI G, 120, .inl (kz_z zs1))), (an1, .inl (gI G, 120, .inl fv1)), (rd2, .inr (2, [.ref hk2, .int (kf_b ob2), .int (kf_p pt2)])), (hk2, .inr (1, [.ref aw2, .ref az2, .ref an2, .int (nI nn2)])), (aw2, .inl (gJ G, 120, .inr (.inl fw2))), (az2, .inl (gI G, 120, .inl (kz_z zs2))), (an2, .inl (gI G, 120, .inl fv2)), (hk, .inr (1, [.ref aw, .ref az, .ref an, .int (nI nn)])), (aw, .inl (gJ G, 120, .inr (.inl fw))), (az, .inl (gI G, 120, .inl (kz_z zs))), (an, .inl (gI G, 120, .inl fv))] sz) := by
  refine Met.ofW (cc := cX3_open) (maxL := 3) (ret := (some .boolean)) (by decide) rfl ?_
  intro p e s m args below meth c s₁ B hml hv
  obtain ⟨rfl, hsz, hP, hK, hD0⟩ := hv
  have hx := B.exec
  have hb := B.bytes
  have hr := B.returns
  have hts := atoms_spec (ws := wsX3_open) B.pre
  have hown : s.vm.findClass RX3 = some m.cls := findClass_of_methodNamed B.named
  have hlocks := B.notSynchronized
  have hinX3 : ∀ w ∈ wsX30, w ∈ wsX3_open := by decide +kernel
  subst hsz
  have hD := hD0.self (sz := s.heap.size)
  generalize hAe : va_A [(xo, .inr (3, [.ref hk, .ref hc, .ref ra])), (ra, .inl (gO G, 3, .inr (.inr (.inr (.inr (kf_ra rd0 rd1 rd2)))))), (rd0, .inr (2, [.ref hk0, .int (kf_b ob0), .int (kf_p pt0)])), (hk0, .inr (1, [.ref aw0, .ref az0, .ref an0, .int (nI nn0)])), (aw0, .inl (gJ G, 120, .inr (.inl fw0))), (az0, .inl (gI G, 120, .inl (kz_z zs0))), (an0, .inl (gI G, 120, .inl fv0)), (rd1, .inr (2, [.ref hk1, .int (kf_b ob1), .int (kf_p pt1)])), (hk1, .inr (1, [.ref aw1, .ref az1, .ref an1, .int (nI nn1)])), (aw1, .inl (gJ G, 120, .inr (.inl fw1))), (az1, .inl (gI G, 120, .inl (kz_z zs1))), (an1, .inl (gI G, 120, .inl fv1)), (rd2, .inr (2, [.ref hk2, .int (kf_b ob2), .int (kf_p pt2)])), (hk2, .inr (1, [.ref aw2, .ref az2, .ref an2, .int (nI nn2)])), (aw2, .inl (gJ G, 120, .inr (.inl fw2))), (az2, .inl (gI G, 120, .inl (kz_z zs2))), (an2, .inl (gI G, 120, .inl fv2)), (hk, .inr (1, [.ref aw, .ref az, .ref an, .int (nI nn)])), (aw, .inl (gJ G, 120, .inr (.inl fw))), (az, .inl (gI G, 120, .inl (kz_z zs))), (an, .inl (gI G, 120, .inl fv))] s.heap.size = A at hD ⊢
  have hA : ∀ q : Nat, s.heap.size ≤ q → A q := fun q h => by rw [← hAe]; exact Or.inr h
  have hS : va_S A s.heap s.heap [] := va_S.rf
  have hP : va_P G.1 vwCl [(xo, .inr (3, [.ref hk, .ref hc, .ref ra])), (ra, .inl (gO G, 3, .inr (.inr (.inr (.inr (kf_ra rd0 rd1 rd2)))))), (rd0, .inr (2, [.ref hk0, .int (kf_b ob0), .int (kf_p pt0)])), (hk0, .inr (1, [.ref aw0, .ref az0, .ref an0, .int (nI nn0)])), (aw0, .inl (gJ G, 120, .inr (.inl fw0))), (az0, .inl (gI G, 120, .inl (kz_z zs0))), (an0, .inl (gI G, 120, .inl fv0)), (rd1, .inr (2, [.ref hk1, .int (kf_b ob1), .int (kf_p pt1)])), (hk1, .inr (1, [.ref aw1, .ref az1, .ref an1, .int (nI nn1)])), (aw1, .inl (gJ G, 120, .inr (.inl fw1))), (az1, .inl (gI G, 120, .inl (kz_z zs1))), (an1, .inl (gI G, 120, .inl fv1)), (rd2, .inr (2, [.ref hk2, .int (kf_b ob2), .int (kf_p pt2)])), (hk2, .inr (1, [.ref aw2, .ref az2, .ref an2, .int (nI nn2)])), (aw2, .inl (gJ G, 120, .inr (.inl fw2))), (az2, .inl (gI G, 120, .inl (kz_z zs2))), (an2, .inl (gI G, 120, .inl fv2)), (hk, .inr (1, [.ref aw, .ref az, .ref an, .int (nI nn)])), (aw, .inl (gJ G, 120, .inr (.inl fw))), (az, .inl (gI G, 120, .inl (kz_z zs))), (an, .inl (gI G, 120, .inl fv))] s.heap := hP
  have hl := lv_entry ([.ref xo, .int rr]) (n := 3) (Nat.le_of_ble_eq_true rfl)
  rw [lg_entry_eq]
  generalize (lg_sl ([.ref xo, .int rr]) ++ List.replicate (3 - (lg_sl ([.ref xo, .int rr])).length) Slot.unset).toArray = ls at hl ⊢
  have hl : lv_has ls 3 [(0, .ref xo), (1, .int rr)] := hl
  refine lv_aload_n hx hb dX3_open_0 rfl (lv_at hl 0 rfl) ?_
  refine lv_iload_n hx hb dX3_open_1 rfl (lv_at hl 1 rfl) ?_
  have hPc := hP.sub (ws' := [(xo, .inr (3, [.ref hk, .ref hc, .ref ra])), (ra, .inl (gO G, 3, .inr (.inr (.inr (.inr (kf_ra rd0 rd1 rd2))))))]) [0, 1] rfl
  refine kz_cq (v := kf_rd rd0 rd1 rd2 rr) (va_runV (As := [.int rr]) (rest := []) ⟨hx, hb, hml, hown, hts⟩ (c_X3_readerOrNull l G xo hk hc ra rd0 rd1 rd2 rr) (cwV 1 hts gX3_open_X3_readerOrNull rfl rfl rfl (by decide +kernel) ⟨Nat.le_of_ble_eq_true rfl, Nat.le_of_ble_eq_true rfl⟩) (kz_pv hK hPc (va_recv hK.1 hPc (ci := 3) (q0 := 0) rfl rfl)) rfl rfl hl.1 rfl (lv_room (Nat.le_of_ble_eq_true rfl)) dX3_open_2 ⟨Nat.zero_le _, Nat.zero_le _⟩).run ?_
  rcases kf_rd_c rd0 rd1 rd2 rr with ⟨e1, e2⟩ | ⟨e1, e2⟩ | ⟨e1, e2⟩ | ⟨e1, e2⟩
  · refine kz_asq (y := .ref rd0) (by rw [e2]; rfl) ?_
    refine lv_astore_n (lv' := [(2, .ref rd0), (0, .ref xo), (1, .int rr)]) hx hb dX3_open_5 rfl hl (by decide) rfl (fun ls hl => ?_)
    refine lv_aload_n hx hb dX3_open_6 rfl (lv_at hl 0 rfl) ?_
    refine lv_ifnull hx hb dX3_open_7 ?_
    refine lv_aload_n hx hb dX3_open_10 rfl (lv_at hl 0 rfl) ?_
    have hPc := hP.sub (ws' := [(rd0, .inr (2, [.ref hk0, .int (kf_b ob0), .int (kf_p pt0)])), (hk0, .inr (1, [.ref aw0, .ref az0, .ref an0, .int (nI nn0)])), (aw0, .inl (gJ G, 120, .inr (.inl fw0))), (az0, .inl (gI G, 120, .inl (kz_z zs0))), (an0, .inl (gI G, 120, .inl fv0))]) [2, 3, 4, 5, 6] rfl
    refine kz_ci (v := kf_b ob0) (va_runV (As := []) (rest := []) ⟨hx, hb, hml, hown, hts⟩ (c_X2_isOpen l G rd0 ob0 pt0 hk0 aw0 az0 an0 nn0 fw0 (kz_z zs0) fv0  ) (cwV 0 hts gX3_open_X2_isOpen rfl rfl rfl (by decide +kernel) ⟨Nat.le_of_ble_eq_true rfl, Nat.le_of_ble_eq_true rfl⟩) (kz_pv hK hPc (va_recv hK.1 hPc (ci := 2) (q0 := 0) rfl rfl)) rfl rfl hl.1 rfl (lv_room (Nat.le_of_ble_eq_true rfl)) dX3_open_11 ⟨Nat.zero_le _, Nat.zero_le _⟩).run ?_
    refine lv_if_eq (tgt := 19) hx hb dX3_open_14 (by decide) (fun c_1 => ?_) (fun c_1 => ?_)
    · have kc_1 : ob0 = false := kf_b_0.mp c_1
      refine lv_aload_n hx hb dX3_open_19 rfl (lv_at hl 0 rfl) ?_
      refine lv_aload_n hx hb dX3_open_20 rfl (lv_at hl 1 rfl) ?_
      refine va_get (D := G.1) (ci := 3) (v := .ref hk) (C := RX3) (T := TX3) (N := 3) hx hb hts hinX3 hown hK.1 hP 0 rfl rfl 0 (by decide) (hts (.fieldLink RX3 10 "ForkStore" "keys" "LForkStore$Keys;") (by decide +kernel)) (fun _ h9 => h9) rfl dX3_open_21 ?_
      have hPc := hP.sub (ws' := [(rd0, .inr (2, [.ref hk0, .int (kf_b ob0), .int (kf_p pt0)])), (hk0, .inr (1, [.ref aw0, .ref az0, .ref an0, .int (nI nn0)])), (aw0, .inl (gJ G, 120, .inr (.inl fw0))), (az0, .inl (gI G, 120, .inl (kz_z zs0))), (an0, .inl (gI G, 120, .inl fv0)), (hk, .inr (1, [.ref aw, .ref az, .ref an, .int (nI nn)])), (aw, .inl (gJ G, 120, .inr (.inl fw))), (az, .inl (gI G, 120, .inl (kz_z zs))), (an, .inl (gI G, 120, .inl fv))]) [2, 3, 4, 5, 6, 17, 18, 19, 20] rfl
      have hDc := hD.sub (ws' := [(rd0, .inr (2, [.ref hk0, .int (kf_b ob0), .int (kf_p pt0)])), (hk0, .inr (1, [.ref aw0, .ref az0, .ref an0, .int (nI nn0)])), (aw0, .inl (gJ G, 120, .inr (.inl fw0))), (az0, .inl (gI G, 120, .inl (kz_z zs0))), (an0, .inl (gI G, 120, .inl fv0)), (hk, .inr (1, [.ref aw, .ref az, .ref an, .int (nI nn)])), (aw, .inl (gJ G, 120, .inr (.inl fw))), (az, .inl (gI G, 120, .inl (kz_z zs))), (an, .inl (gI G, 120, .inl fv))]) [2, 3, 4, 5, 6, 17, 18, 19, 20] (by decide) rfl
      have hFc := va_free (wc := [(rd0, .inr (2, [.ref hk0, .int (kf_b ob0), .int (kf_p pt0)])), (hk0, .inr (1, [.ref aw0, .ref az0, .ref an0, .int (nI nn0)])), (aw0, .inl (gJ G, 120, .inr (.inl fw0))), (az0, .inl (gI G, 120, .inl (kz_z zs0))), (an0, .inl (gI G, 120, .inl fv0)), (hk, .inr (1, [.ref aw, .ref az, .ref an, .int (nI nn)])), (aw, .inl (gJ G, 120, .inr (.inl fw))), (az, .inl (gI G, 120, .inl (kz_z zs))), (an, .inl (gI G, 120, .inl fv))]) hD hS hA [2, 3, 4, 5, 6, 17, 18, 19, 20] rfl
      refine va_callv (va_runV (As := [.ref hk]) (rest := []) ⟨hx, hb, hml, hown, hts⟩ (c_X2_begin l G rd0 ob0 pt0 hk0 aw0 az0 an0 nn0 fw0 (kz_z zs0) fv0 hk aw az an nn fw (kz_z zs) fv _ (by omega)) (cwV 1 hts gX3_open_X2_begin rfl rfl rfl (by decide +kernel) ⟨Nat.le_of_ble_eq_true rfl, Nat.le_of_ble_eq_true rfl⟩) (kz_pvm hK hPc hDc (va_recv hK.1 hPc (ci := 2) (q0 := 0) rfl rfl)) rfl rfl hl.1 rfl (lv_room (Nat.le_of_ble_eq_true rfl)) dX3_open_24 ⟨Nat.zero_le _, Nat.zero_le _⟩) hS (fun q _ h => hFc q h) hFc (fun u t H locs ht hvm hw hB hqz9 hqk9 hS => ?_)
      have hw : u = [(rd0, .inr (2, [.ref hk0, .int (kf_b true), .int (kf_p 0)])), (hk0, .inr (1, [.ref aw0, .ref az0, .ref an0, .int (nI nn)])), (aw0, .inl (gJ G, 120, .inr (.inl (kf_cp fw fw0 nn)))), (az0, .inl (gI G, 120, .inl (kf_cp (kz_z zs) (kz_z zs0) nn))), (an0, .inl (gI G, 120, .inl (kf_cp fv fv0 nn))), (hk, .inr (1, [.ref aw, .ref az, .ref an, .int (nI nn)])), (aw, .inl (gJ G, 120, .inr (.inl fw))), (az, .inl (gI G, 120, .inl (kz_z zs))), (an, .inl (gI G, 120, .inl fv))] := hw
      have hB : va_P G.1 vwCl u H := by rw [← ht]; exact hB
      rw [hw] at hB
      obtain ⟨hP, hD⟩ := kz_join (wc := [(rd0, .inr (2, [.ref hk0, .int (kf_b ob0), .int (kf_p pt0)])), (hk0, .inr (1, [.ref aw0, .ref az0, .ref an0, .int (nI nn0)])), (aw0, .inl (gJ G, 120, .inr (.inl fw0))), (az0, .inl (gI G, 120, .inl (kz_z zs0))), (an0, .inl (gI G, 120, .inl fv0)), (hk, .inr (1, [.ref aw, .ref az, .ref an, .int (nI nn)])), (aw, .inl (gJ G, 120, .inr (.inl fw))), (az, .inl (gI G, 120, .inl (kz_z zs))), (an, .inl (gI G, 120, .inl fv))]) (w1 := [(rd0, .inr (2, [.ref hk0, .int (kf_b true), .int (kf_p 0)])), (hk0, .inr (1, [.ref aw0, .ref az0, .ref an0, .int (nI nn)])), (aw0, .inl (gJ G, 120, .inr (.inl (kf_cp fw fw0 nn)))), (az0, .inl (gI G, 120, .inl (kf_cp (kz_z zs) (kz_z zs0) nn))), (an0, .inl (gI G, 120, .inl (kf_cp fv fv0 nn))), (hk, .inr (1, [.ref aw, .ref az, .ref an, .int (nI nn)])), (aw, .inl (gJ G, 120, .inr (.inl fw))), (az, .inl (gI G, 120, .inl (kz_z zs))), (an, .inl (gI G, 120, .inl fv))]) hP hD [2, 3, 4, 5, 6, 17, 18, 19, 20] rfl (by decide) rfl hqk9 hB
      have hP : va_P G.1 vwCl [(xo, .inr (3, [.ref hk, .ref hc, .ref ra])), (ra, .inl (gO G, 3, .inr (.inr (.inr (.inr (kf_ra rd0 rd1 rd2)))))), (rd0, .inr (2, [.ref hk0, .int (kf_b true), .int (kf_p 0)])), (hk0, .inr (1, [.ref aw0, .ref az0, .ref an0, .int (nI nn)])), (aw0, .inl (gJ G, 120, .inr (.inl (kf_cp fw fw0 nn)))), (az0, .inl (gI G, 120, .inl (kf_cp (kz_z zs) (kz_z zs0) nn))), (an0, .inl (gI G, 120, .inl (kf_cp fv fv0 nn))), (rd1, .inr (2, [.ref hk1, .int (kf_b ob1), .int (kf_p pt1)])), (hk1, .inr (1, [.ref aw1, .ref az1, .ref an1, .int (nI nn1)])), (aw1, .inl (gJ G, 120, .inr (.inl fw1))), (az1, .inl (gI G, 120, .inl (kz_z zs1))), (an1, .inl (gI G, 120, .inl fv1)), (rd2, .inr (2, [.ref hk2, .int (kf_b ob2), .int (kf_p pt2)])), (hk2, .inr (1, [.ref aw2, .ref az2, .ref an2, .int (nI nn2)])), (aw2, .inl (gJ G, 120, .inr (.inl fw2))), (az2, .inl (gI G, 120, .inl (kz_z zs2))), (an2, .inl (gI G, 120, .inl fv2)), (hk, .inr (1, [.ref aw, .ref az, .ref an, .int (nI nn)])), (aw, .inl (gJ G, 120, .inr (.inl fw))), (az, .inl (gI G, 120, .inl (kz_z zs))), (an, .inl (gI G, 120, .inl fv))] H := hP
      have hD : va_D A [(xo, .inr (3, [.ref hk, .ref hc, .ref ra])), (ra, .inl (gO G, 3, .inr (.inr (.inr (.inr (kf_ra rd0 rd1 rd2)))))), (rd0, .inr (2, [.ref hk0, .int (kf_b true), .int (kf_p 0)])), (hk0, .inr (1, [.ref aw0, .ref az0, .ref an0, .int (nI nn)])), (aw0, .inl (gJ G, 120, .inr (.inl (kf_cp fw fw0 nn)))), (az0, .inl (gI G, 120, .inl (kf_cp (kz_z zs) (kz_z zs0) nn))), (an0, .inl (gI G, 120, .inl (kf_cp fv fv0 nn))), (rd1, .inr (2, [.ref hk1, .int (kf_b ob1), .int (kf_p pt1)])), (hk1, .inr (1, [.ref aw1, .ref az1, .ref an1, .int (nI nn1)])), (aw1, .inl (gJ G, 120, .inr (.inl fw1))), (az1, .inl (gI G, 120, .inl (kz_z zs1))), (an1, .inl (gI G, 120, .inl fv1)), (rd2, .inr (2, [.ref hk2, .int (kf_b ob2), .int (kf_p pt2)])), (hk2, .inr (1, [.ref aw2, .ref az2, .ref an2, .int (nI nn2)])), (aw2, .inl (gJ G, 120, .inr (.inl fw2))), (az2, .inl (gI G, 120, .inl (kz_z zs2))), (an2, .inl (gI G, 120, .inl fv2)), (hk, .inr (1, [.ref aw, .ref az, .ref an, .int (nI nn)])), (aw, .inl (gJ G, 120, .inr (.inl fw))), (az, .inl (gI G, 120, .inl (kz_z zs))), (an, .inl (gI G, 120, .inl fv))] := hD
      rw [kf_cp_z] at hP hD
      have hP : va_P G.1 vwCl [(xo, .inr (3, [.ref hk, .ref hc, .ref ra])), (ra, .inl (gO G, 3, .inr (.inr (.inr (.inr (kf_ra rd0 rd1 rd2)))))), (rd0, .inr (2, [.ref hk0, .int (kf_b true), .int (kf_p 0)])), (hk0, .inr (1, [.ref aw0, .ref az0, .ref an0, .int (nI nn)])), (aw0, .inl (gJ G, 120, .inr (.inl (kf_cp fw fw0 nn)))), (az0, .inl (gI G, 120, .inl (kz_z (kf_cp zs zs0 nn)))), (an0, .inl (gI G, 120, .inl (kf_cp fv fv0 nn))), (rd1, .inr (2, [.ref hk1, .int (kf_b ob1), .int (kf_p pt1)])), (hk1, .inr (1, [.ref aw1, .ref az1, .ref an1, .int (nI nn1)])), (aw1, .inl (gJ G, 120, .inr (.inl fw1))), (az1, .inl (gI G, 120, .inl (kz_z zs1))), (an1, .inl (gI G, 120, .inl fv1)), (rd2, .inr (2, [.ref hk2, .int (kf_b ob2), .int (kf_p pt2)])), (hk2, .inr (1, [.ref aw2, .ref az2, .ref an2, .int (nI nn2)])), (aw2, .inl (gJ G, 120, .inr (.inl fw2))), (az2, .inl (gI G, 120, .inl (kz_z zs2))), (an2, .inl (gI G, 120, .inl fv2)), (hk, .inr (1, [.ref aw, .ref az, .ref an, .int (nI nn)])), (aw, .inl (gJ G, 120, .inr (.inl fw))), (az, .inl (gI G, 120, .inl (kz_z zs))), (an, .inl (gI G, 120, .inl fv))] H := hP
      have hD : va_D A [(xo, .inr (3, [.ref hk, .ref hc, .ref ra])), (ra, .inl (gO G, 3, .inr (.inr (.inr (.inr (kf_ra rd0 rd1 rd2)))))), (rd0, .inr (2, [.ref hk0, .int (kf_b true), .int (kf_p 0)])), (hk0, .inr (1, [.ref aw0, .ref az0, .ref an0, .int (nI nn)])), (aw0, .inl (gJ G, 120, .inr (.inl (kf_cp fw fw0 nn)))), (az0, .inl (gI G, 120, .inl (kz_z (kf_cp zs zs0 nn)))), (an0, .inl (gI G, 120, .inl (kf_cp fv fv0 nn))), (rd1, .inr (2, [.ref hk1, .int (kf_b ob1), .int (kf_p pt1)])), (hk1, .inr (1, [.ref aw1, .ref az1, .ref an1, .int (nI nn1)])), (aw1, .inl (gJ G, 120, .inr (.inl fw1))), (az1, .inl (gI G, 120, .inl (kz_z zs1))), (an1, .inl (gI G, 120, .inl fv1)), (rd2, .inr (2, [.ref hk2, .int (kf_b ob2), .int (kf_p pt2)])), (hk2, .inr (1, [.ref aw2, .ref az2, .ref an2, .int (nI nn2)])), (aw2, .inl (gJ G, 120, .inr (.inl fw2))), (az2, .inl (gI G, 120, .inl (kz_z zs2))), (an2, .inl (gI G, 120, .inl fv2)), (hk, .inr (1, [.ref aw, .ref az, .ref an, .int (nI nn)])), (aw, .inl (gJ G, 120, .inr (.inl fw))), (az, .inl (gI G, 120, .inl (kz_z zs))), (an, .inl (gI G, 120, .inl fv))] := hD
      refine lv_iconst (v := 1) hx hb dX3_open_27 (by decide) ?_
      exact W.zret (v := 1) hx hb hr rfl (fun t ht hW => ⟨⟨_, ([(xo, .inr (3, [.ref hk, .ref hc, .ref ra])), (ra, .inl (gO G, 3, .inr (.inr (.inr (.inr (kf_ra rd0 rd1 rd2)))))), (rd0, .inr (2, [.ref hk0, .int (kf_b true), .int (kf_p 0)])), (hk0, .inr (1, [.ref aw0, .ref az0, .ref an0, .int (nI nn)])), (aw0, .inl (gJ G, 120, .inr (.inl (kf_cp fw fw0 nn)))), (az0, .inl (gI G, 120, .inl (kz_z (kf_cp zs zs0 nn)))), (an0, .inl (gI G, 120, .inl (kf_cp fv fv0 nn))), (rd1, .inr (2, [.ref hk1, .int (kf_b ob1), .int (kf_p pt1)])), (hk1, .inr (1, [.ref aw1, .ref az1, .ref an1, .int (nI nn1)])), (aw1, .inl (gJ G, 120, .inr (.inl fw1))), (az1, .inl (gI G, 120, .inl (kz_z zs1))), (an1, .inl (gI G, 120, .inl fv1)), (rd2, .inr (2, [.ref hk2, .int (kf_b ob2), .int (kf_p pt2)])), (hk2, .inr (1, [.ref aw2, .ref az2, .ref an2, .int (nI nn2)])), (aw2, .inl (gJ G, 120, .inr (.inl fw2))), (az2, .inl (gI G, 120, .inl (kz_z zs2))), (an2, .inl (gI G, 120, .inl fv2)), (hk, .inr (1, [.ref aw, .ref az, .ref an, .int (nI nn)])), (aw, .inl (gJ G, 120, .inr (.inl fw))), (az, .inl (gI G, 120, .inl (kz_z zs))), (an, .inl (gI G, 120, .inl fv))] : va_W), rfl, (Or.inl (⟨⟨e1, kc_1⟩, rfl, rfl⟩)), by rw [← ht] at hP; exact hP⟩, hS.F ht⟩) hS.2.2 dX3_open_28
    · have kc_1 : ob0 = true := by
        cases h9 : ob0
        · exact absurd (by rw [h9]; rfl) c_1
        · rfl
      refine lv_iconst (v := 0) hx hb dX3_open_17 (by decide) ?_
      exact W.zret (v := 0) hx hb hr rfl (fun t ht hW => ⟨⟨_, ([(xo, .inr (3, [.ref hk, .ref hc, .ref ra])), (ra, .inl (gO G, 3, .inr (.inr (.inr (.inr (kf_ra rd0 rd1 rd2)))))), (rd0, .inr (2, [.ref hk0, .int (kf_b ob0), .int (kf_p pt0)])), (hk0, .inr (1, [.ref aw0, .ref az0, .ref an0, .int (nI nn0)])), (aw0, .inl (gJ G, 120, .inr (.inl fw0))), (az0, .inl (gI G, 120, .inl (kz_z zs0))), (an0, .inl (gI G, 120, .inl fv0)), (rd1, .inr (2, [.ref hk1, .int (kf_b ob1), .int (kf_p pt1)])), (hk1, .inr (1, [.ref aw1, .ref az1, .ref an1, .int (nI nn1)])), (aw1, .inl (gJ G, 120, .inr (.inl fw1))), (az1, .inl (gI G, 120, .inl (kz_z zs1))), (an1, .inl (gI G, 120, .inl fv1)), (rd2, .inr (2, [.ref hk2, .int (kf_b ob2), .int (kf_p pt2)])), (hk2, .inr (1, [.ref aw2, .ref az2, .ref an2, .int (nI nn2)])), (aw2, .inl (gJ G, 120, .inr (.inl fw2))), (az2, .inl (gI G, 120, .inl (kz_z zs2))), (an2, .inl (gI G, 120, .inl fv2)), (hk, .inr (1, [.ref aw, .ref az, .ref an, .int (nI nn)])), (aw, .inl (gJ G, 120, .inr (.inl fw))), (az, .inl (gI G, 120, .inl (kz_z zs))), (an, .inl (gI G, 120, .inl fv))] : va_W), rfl, (Or.inr (Or.inr (Or.inr (⟨⟨fun h => by rw [kc_1] at h; exact absurd h.2 (by decide), fun h => by rw [e1] at h; exact absurd h.1 (by decide), fun h => by rw [e1] at h; exact absurd h.1 (by decide)⟩, rfl, rfl⟩)))), by rw [← ht] at hP; exact hP⟩, hS.F ht⟩) hS.2.2 dX3_open_18
  · refine kz_asq (y := .ref rd1) (by rw [e2]; rfl) ?_
    refine lv_astore_n (lv' := [(2, .ref rd1), (0, .ref xo), (1, .int rr)]) hx hb dX3_open_5 rfl hl (by decide) rfl (fun ls hl => ?_)
    refine lv_aload_n hx hb dX3_open_6 rfl (lv_at hl 0 rfl) ?_
    refine lv_ifnull hx hb dX3_open_7 ?_
    refine lv_aload_n hx hb dX3_open_10 rfl (lv_at hl 0 rfl) ?_
    have hPc := hP.sub (ws' := [(rd1, .inr (2, [.ref hk1, .int (kf_b ob1), .int (kf_p pt1)])), (hk1, .inr (1, [.ref aw1, .ref az1, .ref an1, .int (nI nn1)])), (aw1, .inl (gJ G, 120, .inr (.inl fw1))), (az1, .inl (gI G, 120, .inl (kz_z zs1))), (an1, .inl (gI G, 120, .inl fv1))]) [7, 8, 9, 10, 11] rfl
    refine kz_ci (v := kf_b ob1) (va_runV (As := []) (rest := []) ⟨hx, hb, hml, hown, hts⟩ (c_X2_isOpen l G rd1 ob1 pt1 hk1 aw1 az1 an1 nn1 fw1 (kz_z zs1) fv1  ) (cwV 0 hts gX3_open_X2_isOpen rfl rfl rfl (by decide +kernel) ⟨Nat.le_of_ble_eq_true rfl, Nat.le_of_ble_eq_true rfl⟩) (kz_pv hK hPc (va_recv hK.1 hPc (ci := 2) (q0 := 0) rfl rfl)) rfl rfl hl.1 rfl (lv_room (Nat.le_of_ble_eq_true rfl)) dX3_open_11 ⟨Nat.zero_le _, Nat.zero_le _⟩).run ?_
    refine lv_if_eq (tgt := 19) hx hb dX3_open_14 (by decide) (fun c_2 => ?_) (fun c_2 => ?_)
    · have kc_2 : ob1 = false := kf_b_0.mp c_2
      refine lv_aload_n hx hb dX3_open_19 rfl (lv_at hl 0 rfl) ?_
      refine lv_aload_n hx hb dX3_open_20 rfl (lv_at hl 1 rfl) ?_
      refine va_get (D := G.1) (ci := 3) (v := .ref hk) (C := RX3) (T := TX3) (N := 3) hx hb hts hinX3 hown hK.1 hP 0 rfl rfl 0 (by decide) (hts (.fieldLink RX3 10 "ForkStore" "keys" "LForkStore$Keys;") (by decide +kernel)) (fun _ h9 => h9) rfl dX3_open_21 ?_
      have hPc := hP.sub (ws' := [(rd1, .inr (2, [.ref hk1, .int (kf_b ob1), .int (kf_p pt1)])), (hk1, .inr (1, [.ref aw1, .ref az1, .ref an1, .int (nI nn1)])), (aw1, .inl (gJ G, 120, .inr (.inl fw1))), (az1, .inl (gI G, 120, .inl (kz_z zs1))), (an1, .inl (gI G, 120, .inl fv1)), (hk, .inr (1, [.ref aw, .ref az, .ref an, .int (nI nn)])), (aw, .inl (gJ G, 120, .inr (.inl fw))), (az, .inl (gI G, 120, .inl (kz_z zs))), (an, .inl (gI G, 120, .inl fv))]) [7, 8, 9, 10, 11, 17, 18, 19, 20] rfl
      have hDc := hD.sub (ws' := [(rd1, .inr (2, [.ref hk1, .int (kf_b ob1), .int (kf_p pt1)])), (hk1, .inr (1, [.ref aw1, .ref az1, .ref an1, .int (nI nn1)])), (aw1, .inl (gJ G, 120, .inr (.inl fw1))), (az1, .inl (gI G, 120, .inl (kz_z zs1))), (an1, .inl (gI G, 120, .inl fv1)), (hk, .inr (1, [.ref aw, .ref az, .ref an, .int (nI nn)])), (aw, .inl (gJ G, 120, .inr (.inl fw))), (az, .inl (gI G, 120, .inl (kz_z zs))), (an, .inl (gI G, 120, .inl fv))]) [7, 8, 9, 10, 11, 17, 18, 19, 20] (by decide) rfl
      have hFc := va_free (wc := [(rd1, .inr (2, [.ref hk1, .int (kf_b ob1), .int (kf_p pt1)])), (hk1, .inr (1, [.ref aw1, .ref az1, .ref an1, .int (nI nn1)])), (aw1, .inl (gJ G, 120, .inr (.inl fw1))), (az1, .inl (gI G, 120, .inl (kz_z zs1))), (an1, .inl (gI G, 120, .inl fv1)), (hk, .inr (1, [.ref aw, .ref az, .ref an, .int (nI nn)])), (aw, .inl (gJ G, 120, .inr (.inl fw))), (az, .inl (gI G, 120, .inl (kz_z zs))), (an, .inl (gI G, 120, .inl fv))]) hD hS hA [7, 8, 9, 10, 11, 17, 18, 19, 20] rfl
      refine va_callv (va_runV (As := [.ref hk]) (rest := []) ⟨hx, hb, hml, hown, hts⟩ (c_X2_begin l G rd1 ob1 pt1 hk1 aw1 az1 an1 nn1 fw1 (kz_z zs1) fv1 hk aw az an nn fw (kz_z zs) fv _ (by omega)) (cwV 1 hts gX3_open_X2_begin rfl rfl rfl (by decide +kernel) ⟨Nat.le_of_ble_eq_true rfl, Nat.le_of_ble_eq_true rfl⟩) (kz_pvm hK hPc hDc (va_recv hK.1 hPc (ci := 2) (q0 := 0) rfl rfl)) rfl rfl hl.1 rfl (lv_room (Nat.le_of_ble_eq_true rfl)) dX3_open_24 ⟨Nat.zero_le _, Nat.zero_le _⟩) hS (fun q _ h => hFc q h) hFc (fun u t H locs ht hvm hw hB hqz9 hqk9 hS => ?_)
      have hw : u = [(rd1, .inr (2, [.ref hk1, .int (kf_b true), .int (kf_p 0)])), (hk1, .inr (1, [.ref aw1, .ref az1, .ref an1, .int (nI nn)])), (aw1, .inl (gJ G, 120, .inr (.inl (kf_cp fw fw1 nn)))), (az1, .inl (gI G, 120, .inl (kf_cp (kz_z zs) (kz_z zs1) nn))), (an1, .inl (gI G, 120, .inl (kf_cp fv fv1 nn))), (hk, .inr (1, [.ref aw, .ref az, .ref an, .int (nI nn)])), (aw, .inl (gJ G, 120, .inr (.inl fw))), (az, .inl (gI G, 120, .inl (kz_z zs))), (an, .inl (gI G, 120, .inl fv))] := hw
      have hB : va_P G.1 vwCl u H := by rw [← ht]; exact hB
      rw [hw] at hB
      obtain ⟨hP, hD⟩ := kz_join (wc := [(rd1, .inr (2, [.ref hk1, .int (kf_b ob1), .int (kf_p pt1)])), (hk1, .inr (1, [.ref aw1, .ref az1, .ref an1, .int (nI nn1)])), (aw1, .inl (gJ G, 120, .inr (.inl fw1))), (az1, .inl (gI G, 120, .inl (kz_z zs1))), (an1, .inl (gI G, 120, .inl fv1)), (hk, .inr (1, [.ref aw, .ref az, .ref an, .int (nI nn)])), (aw, .inl (gJ G, 120, .inr (.inl fw))), (az, .inl (gI G, 120, .inl (kz_z zs))), (an, .inl (gI G, 120, .inl fv))]) (w1 := [(rd1, .inr (2, [.ref hk1, .int (kf_b true), .int (kf_p 0)])), (hk1, .inr (1, [.ref aw1, .ref az1, .ref an1, .int (nI nn)])), (aw1, .inl (gJ G, 120, .inr (.inl (kf_cp fw fw1 nn)))), (az1, .inl (gI G, 120, .inl (kf_cp (kz_z zs) (kz_z zs1) nn))), (an1, .inl (gI G, 120, .inl (kf_cp fv fv1 nn))), (hk, .inr (1, [.ref aw, .ref az, .ref an, .int (nI nn)])), (aw, .inl (gJ G, 120, .inr (.inl fw))), (az, .inl (gI G, 120, .inl (kz_z zs))), (an, .inl (gI G, 120, .inl fv))]) hP hD [7, 8, 9, 10, 11, 17, 18, 19, 20] rfl (by decide) rfl hqk9 hB
      have hP : va_P G.1 vwCl [(xo, .inr (3, [.ref hk, .ref hc, .ref ra])), (ra, .inl (gO G, 3, .inr (.inr (.inr (.inr (kf_ra rd0 rd1 rd2)))))), (rd0, .inr (2, [.ref hk0, .int (kf_b ob0), .int (kf_p pt0)])), (hk0, .inr (1, [.ref aw0, .ref az0, .ref an0, .int (nI nn0)])), (aw0, .inl (gJ G, 120, .inr (.inl fw0))), (az0, .inl (gI G, 120, .inl (kz_z zs0))), (an0, .inl (gI G, 120, .inl fv0)), (rd1, .inr (2, [.ref hk1, .int (kf_b true), .int (kf_p 0)])), (hk1, .inr (1, [.ref aw1, .ref az1, .ref an1, .int (nI nn)])), (aw1, .inl (gJ G, 120, .inr (.inl (kf_cp fw fw1 nn)))), (az1, .inl (gI G, 120, .inl (kf_cp (kz_z zs) (kz_z zs1) nn))), (an1, .inl (gI G, 120, .inl (kf_cp fv fv1 nn))), (rd2, .inr (2, [.ref hk2, .int (kf_b ob2), .int (kf_p pt2)])), (hk2, .inr (1, [.ref aw2, .ref az2, .ref an2, .int (nI nn2)])), (aw2, .inl (gJ G, 120, .inr (.inl fw2))), (az2, .inl (gI G, 120, .inl (kz_z zs2))), (an2, .inl (gI G, 120, .inl fv2)), (hk, .inr (1, [.ref aw, .ref az, .ref an, .int (nI nn)])), (aw, .inl (gJ G, 120, .inr (.inl fw))), (az, .inl (gI G, 120, .inl (kz_z zs))), (an, .inl (gI G, 120, .inl fv))] H := hP
      have hD : va_D A [(xo, .inr (3, [.ref hk, .ref hc, .ref ra])), (ra, .inl (gO G, 3, .inr (.inr (.inr (.inr (kf_ra rd0 rd1 rd2)))))), (rd0, .inr (2, [.ref hk0, .int (kf_b ob0), .int (kf_p pt0)])), (hk0, .inr (1, [.ref aw0, .ref az0, .ref an0, .int (nI nn0)])), (aw0, .inl (gJ G, 120, .inr (.inl fw0))), (az0, .inl (gI G, 120, .inl (kz_z zs0))), (an0, .inl (gI G, 120, .inl fv0)), (rd1, .inr (2, [.ref hk1, .int (kf_b true), .int (kf_p 0)])), (hk1, .inr (1, [.ref aw1, .ref az1, .ref an1, .int (nI nn)])), (aw1, .inl (gJ G, 120, .inr (.inl (kf_cp fw fw1 nn)))), (az1, .inl (gI G, 120, .inl (kf_cp (kz_z zs) (kz_z zs1) nn))), (an1, .inl (gI G, 120, .inl (kf_cp fv fv1 nn))), (rd2, .inr (2, [.ref hk2, .int (kf_b ob2), .int (kf_p pt2)])), (hk2, .inr (1, [.ref aw2, .ref az2, .ref an2, .int (nI nn2)])), (aw2, .inl (gJ G, 120, .inr (.inl fw2))), (az2, .inl (gI G, 120, .inl (kz_z zs2))), (an2, .inl (gI G, 120, .inl fv2)), (hk, .inr (1, [.ref aw, .ref az, .ref an, .int (nI nn)])), (aw, .inl (gJ G, 120, .inr (.inl fw))), (az, .inl (gI G, 120, .inl (kz_z zs))), (an, .inl (gI G, 120, .inl fv))] := hD
      rw [kf_cp_z] at hP hD
      have hP : va_P G.1 vwCl [(xo, .inr (3, [.ref hk, .ref hc, .ref ra])), (ra, .inl (gO G, 3, .inr (.inr (.inr (.inr (kf_ra rd0 rd1 rd2)))))), (rd0, .inr (2, [.ref hk0, .int (kf_b ob0), .int (kf_p pt0)])), (hk0, .inr (1, [.ref aw0, .ref az0, .ref an0, .int (nI nn0)])), (aw0, .inl (gJ G, 120, .inr (.inl fw0))), (az0, .inl (gI G, 120, .inl (kz_z zs0))), (an0, .inl (gI G, 120, .inl fv0)), (rd1, .inr (2, [.ref hk1, .int (kf_b true), .int (kf_p 0)])), (hk1, .inr (1, [.ref aw1, .ref az1, .ref an1, .int (nI nn)])), (aw1, .inl (gJ G, 120, .inr (.inl (kf_cp fw fw1 nn)))), (az1, .inl (gI G, 120, .inl (kz_z (kf_cp zs zs1 nn)))), (an1, .inl (gI G, 120, .inl (kf_cp fv fv1 nn))), (rd2, .inr (2, [.ref hk2, .int (kf_b ob2), .int (kf_p pt2)])), (hk2, .inr (1, [.ref aw2, .ref az2, .ref an2, .int (nI nn2)])), (aw2, .inl (gJ G, 120, .inr (.inl fw2))), (az2, .inl (gI G, 120, .inl (kz_z zs2))), (an2, .inl (gI G, 120, .inl fv2)), (hk, .inr (1, [.ref aw, .ref az, .ref an, .int (nI nn)])), (aw, .inl (gJ G, 120, .inr (.inl fw))), (az, .inl (gI G, 120, .inl (kz_z zs))), (an, .inl (gI G, 120, .inl fv))] H := hP
      have hD : va_D A [(xo, .inr (3, [.ref hk, .ref hc, .ref ra])), (ra, .inl (gO G, 3, .inr (.inr (.inr (.inr (kf_ra rd0 rd1 rd2)))))), (rd0, .inr (2, [.ref hk0, .int (kf_b ob0), .int (kf_p pt0)])), (hk0, .inr (1, [.ref aw0, .ref az0, .ref an0, .int (nI nn0)])), (aw0, .inl (gJ G, 120, .inr (.inl fw0))), (az0, .inl (gI G, 120, .inl (kz_z zs0))), (an0, .inl (gI G, 120, .inl fv0)), (rd1, .inr (2, [.ref hk1, .int (kf_b true), .int (kf_p 0)])), (hk1, .inr (1, [.ref aw1, .ref az1, .ref an1, .int (nI nn)])), (aw1, .inl (gJ G, 120, .inr (.inl (kf_cp fw fw1 nn)))), (az1, .inl (gI G, 120, .inl (kz_z (kf_cp zs zs1 nn)))), (an1, .inl (gI G, 120, .inl (kf_cp fv fv1 nn))), (rd2, .inr (2, [.ref hk2, .int (kf_b ob2), .int (kf_p pt2)])), (hk2, .inr (1, [.ref aw2, .ref az2, .ref an2, .int (nI nn2)])), (aw2, .inl (gJ G, 120, .inr (.inl fw2))), (az2, .inl (gI G, 120, .inl (kz_z zs2))), (an2, .inl (gI G, 120, .inl fv2)), (hk, .inr (1, [.ref aw, .ref az, .ref an, .int (nI nn)])), (aw, .inl (gJ G, 120, .inr (.inl fw))), (az, .inl (gI G, 120, .inl (kz_z zs))), (an, .inl (gI G, 120, .inl fv))] := hD
      refine lv_iconst (v := 1) hx hb dX3_open_27 (by decide) ?_
      exact W.zret (v := 1) hx hb hr rfl (fun t ht hW => ⟨⟨_, ([(xo, .inr (3, [.ref hk, .ref hc, .ref ra])), (ra, .inl (gO G, 3, .inr (.inr (.inr (.inr (kf_ra rd0 rd1 rd2)))))), (rd0, .inr (2, [.ref hk0, .int (kf_b ob0), .int (kf_p pt0)])), (hk0, .inr (1, [.ref aw0, .ref az0, .ref an0, .int (nI nn0)])), (aw0, .inl (gJ G, 120, .inr (.inl fw0))), (az0, .inl (gI G, 120, .inl (kz_z zs0))), (an0, .inl (gI G, 120, .inl fv0)), (rd1, .inr (2, [.ref hk1, .int (kf_b true), .int (kf_p 0)])), (hk1, .inr (1, [.ref aw1, .ref az1, .ref an1, .int (nI nn)])), (aw1, .inl (gJ G, 120, .inr (.inl (kf_cp fw fw1 nn)))), (az1, .inl (gI G, 120, .inl (kz_z (kf_cp zs zs1 nn)))), (an1, .inl (gI G, 120, .inl (kf_cp fv fv1 nn))), (rd2, .inr (2, [.ref hk2, .int (kf_b ob2), .int (kf_p pt2)])), (hk2, .inr (1, [.ref aw2, .ref az2, .ref an2, .int (nI nn2)])), (aw2, .inl (gJ G, 120, .inr (.inl fw2))), (az2, .inl (gI G, 120, .inl (kz_z zs2))), (an2, .inl (gI G, 120, .inl fv2)), (hk, .inr (1, [.ref aw, .ref az, .ref an, .int (nI nn)])), (aw, .inl (gJ G, 120, .inr (.inl fw))), (az, .inl (gI G, 120, .inl (kz_z zs))), (an, .inl (gI G, 120, .inl fv))] : va_W), rfl, (Or.inr (Or.inl (⟨⟨e1, kc_2⟩, rfl, rfl⟩))), by rw [← ht] at hP; exact hP⟩, hS.F ht⟩) hS.2.2 dX3_open_28
    · have kc_2 : ob1 = true := by
        cases h9 : ob1
        · exact absurd (by rw [h9]; rfl) c_2
        · rfl
      refine lv_iconst (v := 0) hx hb dX3_open_17 (by decide) ?_
      exact W.zret (v := 0) hx hb hr rfl (fun t ht hW => ⟨⟨_, ([(xo, .inr (3, [.ref hk, .ref hc, .ref ra])), (ra, .inl (gO G, 3, .inr (.inr (.inr (.inr (kf_ra rd0 rd1 rd2)))))), (rd0, .inr (2, [.ref hk0, .int (kf_b ob0), .int (kf_p pt0)])), (hk0, .inr (1, [.ref aw0, .ref az0, .ref an0, .int (nI nn0)])), (aw0, .inl (gJ G, 120, .inr (.inl fw0))), (az0, .inl (gI G, 120, .inl (kz_z zs0))), (an0, .inl (gI G, 120, .inl fv0)), (rd1, .inr (2, [.ref hk1, .int (kf_b ob1), .int (kf_p pt1)])), (hk1, .inr (1, [.ref aw1, .ref az1, .ref an1, .int (nI nn1)])), (aw1, .inl (gJ G, 120, .inr (.inl fw1))), (az1, .inl (gI G, 120, .inl (kz_z zs1))), (an1, .inl (gI G, 120, .inl fv1)), (rd2, .inr (2, [.ref hk2, .int (kf_b ob2), .int (kf_p pt2)])), (hk2, .inr (1, [.ref aw2, .ref az2, .ref an2, .int (nI nn2)])), (aw2, .inl (gJ G, 120, .inr (.inl fw2))), (az2, .inl (gI G, 120, .inl (kz_z zs2))), (an2, .inl (gI G, 120, .inl fv2)), (hk, .inr (1, [.ref aw, .ref az, .ref an, .int (nI nn)])), (aw, .inl (gJ G, 120, .inr (.inl fw))), (az, .inl (gI G, 120, .inl (kz_z zs))), (an, .inl (gI G, 120, .inl fv))] : va_W), rfl, (Or.inr (Or.inr (Or.inr (⟨⟨fun h => by rw [e1] at h; exact absurd h.1 (by decide), fun h => by rw [kc_2] at h; exact absurd h.2 (by decide), fun h => by rw [e1] at h; exact absurd h.1 (by decide)⟩, rfl, rfl⟩)))), by rw [← ht] at hP; exact hP⟩, hS.F ht⟩) hS.2.2 dX3_open_18
  · refine kz_asq (y := .ref rd2) (by rw [e2]; rfl) ?_
    refine lv_astore_n (lv' := [(2, .ref rd2), (0, .ref xo), (1, .int rr)]) hx hb dX3_open_5 rfl hl (by decide) rfl (fun ls hl => ?_)
    refine lv_aload_n hx hb dX3_open_6 rfl (lv_at hl 0 rfl) ?_
    refine lv_ifnull hx hb dX3_open_7 ?_
    refine lv_aload_n hx hb dX3_open_10 rfl (lv_at hl 0 rfl) ?_
    have hPc := hP.sub (ws' := [(rd2, .inr (2, [.ref hk2, .int (kf_b ob2), .int (kf_p pt2)])), (hk2, .inr (1, [.ref aw2, .ref az2, .ref an2, .int (nI nn2)])), (aw2, .inl (gJ G, 120, .inr (.inl fw2))), (az2, .inl (gI G, 120, .inl (kz_z zs2))), (an2, .inl (gI G, 120, .inl fv2))]) [12, 13, 14, 15, 16] rfl
    refine kz_ci (v := kf_b ob2) (va_runV (As := []) (rest := []) ⟨hx, hb, hml, hown, hts⟩ (c_X2_isOpen l G rd2 ob2 pt2 hk2 aw2 az2 an2 nn2 fw2 (kz_z zs2) fv2  ) (cwV 0 hts gX3_open_X2_isOpen rfl rfl rfl (by decide +kernel) ⟨Nat.le_of_ble_eq_true rfl, Nat.le_of_ble_eq_true rfl⟩) (kz_pv hK hPc (va_recv hK.1 hPc (ci := 2) (q0 := 0) rfl rfl)) rfl rfl hl.1 rfl (lv_room (Nat.le_of_ble_eq_true rfl)) dX3_open_11 ⟨Nat.zero_le _, Nat.zero_le _⟩).run ?_
    refine lv_if_eq (tgt := 19) hx hb dX3_open_14 (by decide) (fun c_3 => ?_) (fun c_3 => ?_)
    · have kc_3 : ob2 = false := kf_b_0.mp c_3
      refine lv_aload_n hx hb dX3_open_19 rfl (lv_at hl 0 rfl) ?_
      refine lv_aload_n hx hb dX3_open_20 rfl (lv_at hl 1 rfl) ?_
      refine va_get (D := G.1) (ci := 3) (v := .ref hk) (C := RX3) (T := TX3) (N := 3) hx hb hts hinX3 hown hK.1 hP 0 rfl rfl 0 (by decide) (hts (.fieldLink RX3 10 "ForkStore" "keys" "LForkStore$Keys;") (by decide +kernel)) (fun _ h9 => h9) rfl dX3_open_21 ?_
      have hPc := hP.sub (ws' := [(rd2, .inr (2, [.ref hk2, .int (kf_b ob2), .int (kf_p pt2)])), (hk2, .inr (1, [.ref aw2, .ref az2, .ref an2, .int (nI nn2)])), (aw2, .inl (gJ G, 120, .inr (.inl fw2))), (az2, .inl (gI G, 120, .inl (kz_z zs2))), (an2, .inl (gI G, 120, .inl fv2)), (hk, .inr (1, [.ref aw, .ref az, .ref an, .int (nI nn)])), (aw, .inl (gJ G, 120, .inr (.inl fw))), (az, .inl (gI G, 120, .inl (kz_z zs))), (an, .inl (gI G, 120, .inl fv))]) [12, 13, 14, 15, 16, 17, 18, 19, 20] rfl
      have hDc := hD.sub (ws' := [(rd2, .inr (2, [.ref hk2, .int (kf_b ob2), .int (kf_p pt2)])), (hk2, .inr (1, [.ref aw2, .ref az2, .ref an2, .int (nI nn2)])), (aw2, .inl (gJ G, 120, .inr (.inl fw2))), (az2, .inl (gI G, 120, .inl (kz_z zs2))), (an2, .inl (gI G, 120, .inl fv2)), (hk, .inr (1, [.ref aw, .ref az, .ref an, .int (nI nn)])), (aw, .inl (gJ G, 120, .inr (.inl fw))), (az, .inl (gI G, 120, .inl (kz_z zs))), (an, .inl (gI G, 120, .inl fv))]) [12, 13, 14, 15, 16, 17, 18, 19, 20] (by decide) rfl
      have hFc := va_free (wc := [(rd2, .inr (2, [.ref hk2, .int (kf_b ob2), .int (kf_p pt2)])), (hk2, .inr (1, [.ref aw2, .ref az2, .ref an2, .int (nI nn2)])), (aw2, .inl (gJ G, 120, .inr (.inl fw2))), (az2, .inl (gI G, 120, .inl (kz_z zs2))), (an2, .inl (gI G, 120, .inl fv2)), (hk, .inr (1, [.ref aw, .ref az, .ref an, .int (nI nn)])), (aw, .inl (gJ G, 120, .inr (.inl fw))), (az, .inl (gI G, 120, .inl (kz_z zs))), (an, .inl (gI G, 120, .inl fv))]) hD hS hA [12, 13, 14, 15, 16, 17, 18, 19, 20] rfl
      refine va_callv (va_runV (As := [.ref hk]) (rest := []) ⟨hx, hb, hml, hown, hts⟩ (c_X2_begin l G rd2 ob2 pt2 hk2 aw2 az2 an2 nn2 fw2 (kz_z zs2) fv2 hk aw az an nn fw (kz_z zs) fv _ (by omega)) (cwV 1 hts gX3_open_X2_begin rfl rfl rfl (by decide +kernel) ⟨Nat.le_of_ble_eq_true rfl, Nat.le_of_ble_eq_true rfl⟩) (kz_pvm hK hPc hDc (va_recv hK.1 hPc (ci := 2) (q0 := 0) rfl rfl)) rfl rfl hl.1 rfl (lv_room (Nat.le_of_ble_eq_true rfl)) dX3_open_24 ⟨Nat.zero_le _, Nat.zero_le _⟩) hS (fun q _ h => hFc q h) hFc (fun u t H locs ht hvm hw hB hqz9 hqk9 hS => ?_)
      have hw : u = [(rd2, .inr (2, [.ref hk2, .int (kf_b true), .int (kf_p 0)])), (hk2, .inr (1, [.ref aw2, .ref az2, .ref an2, .int (nI nn)])), (aw2, .inl (gJ G, 120, .inr (.inl (kf_cp fw fw2 nn)))), (az2, .inl (gI G, 120, .inl (kf_cp (kz_z zs) (kz_z zs2) nn))), (an2, .inl (gI G, 120, .inl (kf_cp fv fv2 nn))), (hk, .inr (1, [.ref aw, .ref az, .ref an, .int (nI nn)])), (aw, .inl (gJ G, 120, .inr (.inl fw))), (az, .inl (gI G, 120, .inl (kz_z zs))), (an, .inl (gI G, 120, .inl fv))] := hw
      have hB : va_P G.1 vwCl u H := by rw [← ht]; exact hB
      rw [hw] at hB
      obtain ⟨hP, hD⟩ := kz_join (wc := [(rd2, .inr (2, [.ref hk2, .int (kf_b ob2), .int (kf_p pt2)])), (hk2, .inr (1, [.ref aw2, .ref az2, .ref an2, .int (nI nn2)])), (aw2, .inl (gJ G, 120, .inr (.inl fw2))), (az2, .inl (gI G, 120, .inl (kz_z zs2))), (an2, .inl (gI G, 120, .inl fv2)), (hk, .inr (1, [.ref aw, .ref az, .ref an, .int (nI nn)])), (aw, .inl (gJ G, 120, .inr (.inl fw))), (az, .inl (gI G, 120, .inl (kz_z zs))), (an, .inl (gI G, 120, .inl fv))]) (w1 := [(rd2, .inr (2, [.ref hk2, .int (kf_b true), .int (kf_p 0)])), (hk2, .inr (1, [.ref aw2, .ref az2, .ref an2, .int (nI nn)])), (aw2, .inl (gJ G, 120, .inr (.inl (kf_cp fw fw2 nn)))), (az2, .inl (gI G, 120, .inl (kf_cp (kz_z zs) (kz_z zs2) nn))), (an2, .inl (gI G, 120, .inl (kf_cp fv fv2 nn))), (hk, .inr (1, [.ref aw, .ref az, .ref an, .int (nI nn)])), (aw, .inl (gJ G, 120, .inr (.inl fw))), (az, .inl (gI G, 120, .inl (kz_z zs))), (an, .inl (gI G, 120, .inl fv))]) hP hD [12, 13, 14, 15, 16, 17, 18, 19, 20] rfl (by decide) rfl hqk9 hB
      have hP : va_P G.1 vwCl [(xo, .inr (3, [.ref hk, .ref hc, .ref ra])), (ra, .inl (gO G, 3, .inr (.inr (.inr (.inr (kf_ra rd0 rd1 rd2)))))), (rd0, .inr (2, [.ref hk0, .int (kf_b ob0), .int (kf_p pt0)])), (hk0, .inr (1, [.ref aw0, .ref az0, .ref an0, .int (nI nn0)])), (aw0, .inl (gJ G, 120, .inr (.inl fw0))), (az0, .inl (gI G, 120, .inl (kz_z zs0))), (an0, .inl (gI G, 120, .inl fv0)), (rd1, .inr (2, [.ref hk1, .int (kf_b ob1), .int (kf_p pt1)])), (hk1, .inr (1, [.ref aw1, .ref az1, .ref an1, .int (nI nn1)])), (aw1, .inl (gJ G, 120, .inr (.inl fw1))), (az1, .inl (gI G, 120, .inl (kz_z zs1))), (an1, .inl (gI G, 120, .inl fv1)), (rd2, .inr (2, [.ref hk2, .int (kf_b true), .int (kf_p 0)])), (hk2, .inr (1, [.ref aw2, .ref az2, .ref an2, .int (nI nn)])), (aw2, .inl (gJ G, 120, .inr (.inl (kf_cp fw fw2 nn)))), (az2, .inl (gI G, 120, .inl (kf_cp (kz_z zs) (kz_z zs2) nn))), (an2, .inl (gI G, 120, .inl (kf_cp fv fv2 nn))), (hk, .inr (1, [.ref aw, .ref az, .ref an, .int (nI nn)])), (aw, .inl (gJ G, 120, .inr (.inl fw))), (az, .inl (gI G, 120, .inl (kz_z zs))), (an, .inl (gI G, 120, .inl fv))] H := hP
      have hD : va_D A [(xo, .inr (3, [.ref hk, .ref hc, .ref ra])), (ra, .inl (gO G, 3, .inr (.inr (.inr (.inr (kf_ra rd0 rd1 rd2)))))), (rd0, .inr (2, [.ref hk0, .int (kf_b ob0), .int (kf_p pt0)])), (hk0, .inr (1, [.ref aw0, .ref az0, .ref an0, .int (nI nn0)])), (aw0, .inl (gJ G, 120, .inr (.inl fw0))), (az0, .inl (gI G, 120, .inl (kz_z zs0))), (an0, .inl (gI G, 120, .inl fv0)), (rd1, .inr (2, [.ref hk1, .int (kf_b ob1), .int (kf_p pt1)])), (hk1, .inr (1, [.ref aw1, .ref az1, .ref an1, .int (nI nn1)])), (aw1, .inl (gJ G, 120, .inr (.inl fw1))), (az1, .inl (gI G, 120, .inl (kz_z zs1))), (an1, .inl (gI G, 120, .inl fv1)), (rd2, .inr (2, [.ref hk2, .int (kf_b true), .int (kf_p 0)])), (hk2, .inr (1, [.ref aw2, .ref az2, .ref an2, .int (nI nn)])), (aw2, .inl (gJ G, 120, .inr (.inl (kf_cp fw fw2 nn)))), (az2, .inl (gI G, 120, .inl (kf_cp (kz_z zs) (kz_z zs2) nn))), (an2, .inl (gI G, 120, .inl (kf_cp fv fv2 nn))), (hk, .inr (1, [.ref aw, .ref az, .ref an, .int (nI nn)])), (aw, .inl (gJ G, 120, .inr (.inl fw))), (az, .inl (gI G, 120, .inl (kz_z zs))), (an, .inl (gI G, 120, .inl fv))] := hD
      rw [kf_cp_z] at hP hD
      have hP : va_P G.1 vwCl [(xo, .inr (3, [.ref hk, .ref hc, .ref ra])), (ra, .inl (gO G, 3, .inr (.inr (.inr (.inr (kf_ra rd0 rd1 rd2)))))), (rd0, .inr (2, [.ref hk0, .int (kf_b ob0), .int (kf_p pt0)])), (hk0, .inr (1, [.ref aw0, .ref az0, .ref an0, .int (nI nn0)])), (aw0, .inl (gJ G, 120, .inr (.inl fw0))), (az0, .inl (gI G, 120, .inl (kz_z zs0))), (an0, .inl (gI G, 120, .inl fv0)), (rd1, .inr (2, [.ref hk1, .int (kf_b ob1), .int (kf_p pt1)])), (hk1, .inr (1, [.ref aw1, .ref az1, .ref an1, .int (nI nn1)])), (aw1, .inl (gJ G, 120, .inr (.inl fw1))), (az1, .inl (gI G, 120, .inl (kz_z zs1))), (an1, .inl (gI G, 120, .inl fv1)), (rd2, .inr (2, [.ref hk2, .int (kf_b true), .int (kf_p 0)])), (hk2, .inr (1, [.ref aw2, .ref az2, .ref an2, .int (nI nn)])), (aw2, .inl (gJ G, 120, .inr (.inl (kf_cp fw fw2 nn)))), (az2, .inl (gI G, 120, .inl (kz_z (kf_cp zs zs2 nn)))), (an2, .inl (gI G, 120, .inl (kf_cp fv fv2 nn))), (hk, .inr (1, [.ref aw, .ref az, .ref an, .int (nI nn)])), (aw, .inl (gJ G, 120, .inr (.inl fw))), (az, .inl (gI G, 120, .inl (kz_z zs))), (an, .inl (gI G, 120, .inl fv))] H := hP
      have hD : va_D A [(xo, .inr (3, [.ref hk, .ref hc, .ref ra])), (ra, .inl (gO G, 3, .inr (.inr (.inr (.inr (kf_ra rd0 rd1 rd2)))))), (rd0, .inr (2, [.ref hk0, .int (kf_b ob0), .int (kf_p pt0)])), (hk0, .inr (1, [.ref aw0, .ref az0, .ref an0, .int (nI nn0)])), (aw0, .inl (gJ G, 120, .inr (.inl fw0))), (az0, .inl (gI G, 120, .inl (kz_z zs0))), (an0, .inl (gI G, 120, .inl fv0)), (rd1, .inr (2, [.ref hk1, .int (kf_b ob1), .int (kf_p pt1)])), (hk1, .inr (1, [.ref aw1, .ref az1, .ref an1, .int (nI nn1)])), (aw1, .inl (gJ G, 120, .inr (.inl fw1))), (az1, .inl (gI G, 120, .inl (kz_z zs1))), (an1, .inl (gI G, 120, .inl fv1)), (rd2, .inr (2, [.ref hk2, .int (kf_b true), .int (kf_p 0)])), (hk2, .inr (1, [.ref aw2, .ref az2, .ref an2, .int (nI nn)])), (aw2, .inl (gJ G, 120, .inr (.inl (kf_cp fw fw2 nn)))), (az2, .inl (gI G, 120, .inl (kz_z (kf_cp zs zs2 nn)))), (an2, .inl (gI G, 120, .inl (kf_cp fv fv2 nn))), (hk, .inr (1, [.ref aw, .ref az, .ref an, .int (nI nn)])), (aw, .inl (gJ G, 120, .inr (.inl fw))), (az, .inl (gI G, 120, .inl (kz_z zs))), (an, .inl (gI G, 120, .inl fv))] := hD
      refine lv_iconst (v := 1) hx hb dX3_open_27 (by decide) ?_
      exact W.zret (v := 1) hx hb hr rfl (fun t ht hW => ⟨⟨_, ([(xo, .inr (3, [.ref hk, .ref hc, .ref ra])), (ra, .inl (gO G, 3, .inr (.inr (.inr (.inr (kf_ra rd0 rd1 rd2)))))), (rd0, .inr (2, [.ref hk0, .int (kf_b ob0), .int (kf_p pt0)])), (hk0, .inr (1, [.ref aw0, .ref az0, .ref an0, .int (nI nn0)])), (aw0, .inl (gJ G, 120, .inr (.inl fw0))), (az0, .inl (gI G, 120, .inl (kz_z zs0))), (an0, .inl (gI G, 120, .inl fv0)), (rd1, .inr (2, [.ref hk1, .int (kf_b ob1), .int (kf_p pt1)])), (hk1, .inr (1, [.ref aw1, .ref az1, .ref an1, .int (nI nn1)])), (aw1, .inl (gJ G, 120, .inr (.inl fw1))), (az1, .inl (gI G, 120, .inl (kz_z zs1))), (an1, .inl (gI G, 120, .inl fv1)), (rd2, .inr (2, [.ref hk2, .int (kf_b true), .int (kf_p 0)])), (hk2, .inr (1, [.ref aw2, .ref az2, .ref an2, .int (nI nn)])), (aw2, .inl (gJ G, 120, .inr (.inl (kf_cp fw fw2 nn)))), (az2, .inl (gI G, 120, .inl (kz_z (kf_cp zs zs2 nn)))), (an2, .inl (gI G, 120, .inl (kf_cp fv fv2 nn))), (hk, .inr (1, [.ref aw, .ref az, .ref an, .int (nI nn)])), (aw, .inl (gJ G, 120, .inr (.inl fw))), (az, .inl (gI G, 120, .inl (kz_z zs))), (an, .inl (gI G, 120, .inl fv))] : va_W), rfl, (Or.inr (Or.inr (Or.inl (⟨⟨e1, kc_3⟩, rfl, rfl⟩)))), by rw [← ht] at hP; exact hP⟩, hS.F ht⟩) hS.2.2 dX3_open_28
    · have kc_3 : ob2 = true := by
        cases h9 : ob2
        · exact absurd (by rw [h9]; rfl) c_3
        · rfl
      refine lv_iconst (v := 0) hx hb dX3_open_17 (by decide) ?_
      exact W.zret (v := 0) hx hb hr rfl (fun t ht hW => ⟨⟨_, ([(xo, .inr (3, [.ref hk, .ref hc, .ref ra])), (ra, .inl (gO G, 3, .inr (.inr (.inr (.inr (kf_ra rd0 rd1 rd2)))))), (rd0, .inr (2, [.ref hk0, .int (kf_b ob0), .int (kf_p pt0)])), (hk0, .inr (1, [.ref aw0, .ref az0, .ref an0, .int (nI nn0)])), (aw0, .inl (gJ G, 120, .inr (.inl fw0))), (az0, .inl (gI G, 120, .inl (kz_z zs0))), (an0, .inl (gI G, 120, .inl fv0)), (rd1, .inr (2, [.ref hk1, .int (kf_b ob1), .int (kf_p pt1)])), (hk1, .inr (1, [.ref aw1, .ref az1, .ref an1, .int (nI nn1)])), (aw1, .inl (gJ G, 120, .inr (.inl fw1))), (az1, .inl (gI G, 120, .inl (kz_z zs1))), (an1, .inl (gI G, 120, .inl fv1)), (rd2, .inr (2, [.ref hk2, .int (kf_b ob2), .int (kf_p pt2)])), (hk2, .inr (1, [.ref aw2, .ref az2, .ref an2, .int (nI nn2)])), (aw2, .inl (gJ G, 120, .inr (.inl fw2))), (az2, .inl (gI G, 120, .inl (kz_z zs2))), (an2, .inl (gI G, 120, .inl fv2)), (hk, .inr (1, [.ref aw, .ref az, .ref an, .int (nI nn)])), (aw, .inl (gJ G, 120, .inr (.inl fw))), (az, .inl (gI G, 120, .inl (kz_z zs))), (an, .inl (gI G, 120, .inl fv))] : va_W), rfl, (Or.inr (Or.inr (Or.inr (⟨⟨fun h => by rw [e1] at h; exact absurd h.1 (by decide), fun h => by rw [e1] at h; exact absurd h.1 (by decide), fun h => by rw [kc_3] at h; exact absurd h.2 (by decide)⟩, rfl, rfl⟩)))), by rw [← ht] at hP; exact hP⟩, hS.F ht⟩) hS.2.2 dX3_open_18
  · refine kz_asq (y := .null) (by rw [e2]; rfl) ?_
    refine lv_astore_nN (lv' := [(2, .null), (0, .ref xo), (1, .int rr)]) hx hb dX3_open_5 rfl hl (by decide) rfl (fun ls hl => ?_)
    refine lv_aload_nN hx hb dX3_open_6 rfl (lv_at hl 0 rfl) ?_
    refine lv_ifnullN (tgt := 17) hx hb dX3_open_7 (by decide) ?_
    refine lv_iconst (v := 0) hx hb dX3_open_17 (by decide) ?_
    exact W.zret (v := 0) hx hb hr rfl (fun t ht hW => ⟨⟨_, ([(xo, .inr (3, [.ref hk, .ref hc, .ref ra])), (ra, .inl (gO G, 3, .inr (.inr (.inr (.inr (kf_ra rd0 rd1 rd2)))))), (rd0, .inr (2, [.ref hk0, .int (kf_b ob0), .int (kf_p pt0)])), (hk0, .inr (1, [.ref aw0, .ref az0, .ref an0, .int (nI nn0)])), (aw0, .inl (gJ G, 120, .inr (.inl fw0))), (az0, .inl (gI G, 120, .inl (kz_z zs0))), (an0, .inl (gI G, 120, .inl fv0)), (rd1, .inr (2, [.ref hk1, .int (kf_b ob1), .int (kf_p pt1)])), (hk1, .inr (1, [.ref aw1, .ref az1, .ref an1, .int (nI nn1)])), (aw1, .inl (gJ G, 120, .inr (.inl fw1))), (az1, .inl (gI G, 120, .inl (kz_z zs1))), (an1, .inl (gI G, 120, .inl fv1)), (rd2, .inr (2, [.ref hk2, .int (kf_b ob2), .int (kf_p pt2)])), (hk2, .inr (1, [.ref aw2, .ref az2, .ref an2, .int (nI nn2)])), (aw2, .inl (gJ G, 120, .inr (.inl fw2))), (az2, .inl (gI G, 120, .inl (kz_z zs2))), (an2, .inl (gI G, 120, .inl fv2)), (hk, .inr (1, [.ref aw, .ref az, .ref an, .int (nI nn)])), (aw, .inl (gJ G, 120, .inr (.inl fw))), (az, .inl (gI G, 120, .inl (kz_z zs))), (an, .inl (gI G, 120, .inl fv))] : va_W), rfl, (Or.inr (Or.inr (Or.inr (⟨⟨fun h => e1 (Or.inl h.1), fun h => e1 (Or.inr (Or.inl h.1)), fun h => e1 (Or.inr (Or.inr h.1))⟩, rfl, rfl⟩)))), by rw [← ht] at hP; exact hP⟩, hS.F ht⟩) hS.2.2 dX3_open_18
end
section
def kz_bo (po : Nat → Bool) : Nat → Int32 := fun j => kf_b (po j)
def kz_ub (po : Nat → Bool) (k : Nat) (b : Bool) : Nat → Bool := fun j => if j = k then b else po j
theorem kz_bu (po : Nat → Bool) (k : Nat) (b : Bool) : kz_bo (kz_ub po k b) = upd (kz_bo po) k (kf_b b) := by
  funext j
  unfold kz_bo kz_ub upd
  split <;> rfl
def kz_pw (pw : Nat → Nat) : Nat → Int32 := fun j => kf_p (pw j)
theorem kz_pu (pw : Nat → Nat) (k n : Nat) : kz_pw (kz_un pw k n) = upd (kz_pw pw) k (kf_p n) := by
  funext j
  unfold kz_pw kz_un upd
  split <;> rfl
/-- a row of 120 places -/
def kf_row {α : Type} (f : Nat → α) (ro : Nat) : Nat → α := fun j => f (120 * ro + j)
theorem kf_xor63 {a : Nat} (h : a < 18446744073709551616) : a ^^^ 2 ^ 63 = (a + 9223372036854775808) % 18446744073709551616 := by
  have h1 : (a ^^^ 2 ^ 63) % 2 ^ 63 = a % 2 ^ 63 := by rw [Nat.xor_mod_two_pow, Nat.mod_self, Nat.xor_zero]
  have h2 : (a ^^^ 2 ^ 63) / 2 ^ 63 = (a / 2 ^ 63) ^^^ 1 := by rw [Nat.xor_div_two_pow, Nat.div_self (Nat.two_pow_pos 63)]
  have h3 : a / 2 ^ 63 = 0 ∨ a / 2 ^ 63 = 1 := by omega
  generalize a ^^^ 2 ^ 63 = t at h1 h2
  rcases h3 with h3 | h3
  · rw [h3] at h2
    have h2 : t / 2 ^ 63 = 1 := h2
    omega
  · rw [h3] at h2
    have h2 : t / 2 ^ 63 = 0 := h2
    omega
theorem kf_xormin (a : Int64) : a ^^^ (-9223372036854775808) = a + (-9223372036854775808) := by
  apply Int64.toBitVec_inj.mp
  apply BitVec.eq_of_toNat_eq
  have h2 := a.toBitVec.isLt
  rw [Int64.toBitVec_xor, BitVec.toNat_xor, Int64.toBitVec_add, BitVec.toNat_add]
  have e2 : ((-9223372036854775808 : Int64).toBitVec).toNat = 2 ^ 63 := by decide
  rw [e2, kf_xor63 (by omega)]
/-- ForkStoreModel.order -/
def kf_od (x : Int64) (z : Nat) (w : Int64) (y : Nat) : Int32 := if x = w then nI z - nI y else if un x < un w then -1 else 1
theorem kf_od_lt {x : Int64} {z : Nat} {w : Int64} {y : Nat} (hz : z ≤ 8) (hy : y ≤ 8) : kf_od x z w y < 0 ↔ kf_lt x z w y = true := by
  rw [kf_lt_iff]
  unfold kf_od
  split
  · rename_i h
    subst h
    constructor
    · intro h
      refine Or.inr ⟨rfl, ?_⟩
      rcases Nat.lt_or_ge z y with h2 | h2
      · exact h2
      · rw [pk_sub h2] at h
        exact absurd h (nI_pos (by omega))
    · intro h
      rcases h with h | h
      · omega
      · exact pk_sneg (by omega) h.2
  · rename_i h
    split
    · rename_i h2
      exact ⟨fun _ => Or.inl h2, fun _ => by decide⟩
    · rename_i h2
      exact ⟨fun z => absurd z (by decide), fun z => by
        rcases z with z | z
        · exact absurd z h2
        · exact absurd z.1 h⟩
theorem kf_od_eq {x : Int64} {z : Nat} {w : Int64} {y : Nat} (hz : z ≤ 8) (hy : y ≤ 8) : kf_od x z w y = 0 ↔ (x = w ∧ z = y) := by
  unfold kf_od
  split
  · rename_i h
    constructor
    · intro h2
      refine ⟨h, ?_⟩
      have h3 : nI z = nI y := by
        have h4 := congrArg (fun t => t + nI y) h2
        simpa using h4
      exact (nI_eq (by omega) (by omega)).mp h3
    · rintro ⟨-, rfl⟩
      exact Int32.sub_self _
  · rename_i h
    split
    · exact ⟨fun z => absurd z (by decide), fun z => absurd z.1 h⟩
    · exact ⟨fun z => absurd z (by decide), fun z => absurd z.1 h⟩
/-- ForkStoreModel.isOpen -/
def kf_mop (po : Nat → Bool) (rr : Int32) : Bool := if 0 ≤ rr ∧ rr < 3 then po (kf_zn rr) else false
theorem kf_3 {jj : Nat} (h : jj < 3) : 0 ≤ nI jj ∧ nI jj < 3 := (kf_plN (jj := jj) (nn := 3) (by omega) (by decide)).mpr h
theorem kf_mop_n {po : Nat → Bool} {jj : Nat} (h : jj < 3) : kf_mop po (nI jj) = po jj := by
  unfold kf_mop
  rw [if_pos (kf_3 h), kf_zn, nI_clamp (by omega)]
theorem kf_mop_t {po : Nat → Bool} {rr : Int32} (h : kf_mop po rr = true) : ∃ jj : Nat, jj < 3 ∧ rr = nI jj ∧ po jj = true := by
  unfold kf_mop at h
  split at h
  · rename_i h1
    obtain ⟨jj, h2, rfl⟩ := kf_pl (nn := 3) (by decide) h1
    rw [kf_zn, nI_clamp (by omega)] at h
    exact ⟨jj, h2, rfl, h⟩
  · cases h
/-- ForkStoreModel.begins -/
abbrev kf_bg (x : Int64) (z : Nat) (w : Int64) (y : Nat) : Prop := y ≤ z ∧ kf_cut x y = w

set_option maxHeartbeats 4000000 in
set_option maxRecDepth 100000 in
theorem c_X4_thrown (l : Launch) (G : kz_G) (mo mc mw mz mv mp mh : Nat) (tv : Int32) (cs : Nat → Nat) (mW : Nat → Int64) (mZ : Nat → Nat) (mV : Nat → Int32) (po : Nat → Bool) (pw : Nat → Nat) : Met l yX4_thrown wsX4_thrown { frames := 0, cells := 0, slots := 0, locals := 0 } (kz_Pp G [.ref mo] [(mo, .inr (4, [.int tv, .ref mc, .ref mw, .ref mz, .ref mv, .ref mp, .ref mh])), (mc, .inl (gI G, 4, .inl (kz_z cs))), (mw, .inl (gJ G, 480, .inr (.inl mW))), (mz, .inl (gI G, 480, .inl (kz_z mZ))), (mv, .inl (gI G, 480, .inl mV)), (mp, .inl (gZ G, 3, .inl (kz_bo po))), (mh, .inl (gI G, 3, .inl (kz_pw pw)))]) (vp_Si (fun r => r = tv)) 0 0 (fun _ => False) := by
  refine Met.ofW (cc := cX4_thrown) (maxL := 1) (ret := (some .int)) (by decide) rfl ?_
  intro p e s m args below meth c s₁ B hml hv
  obtain ⟨rfl, hP, hK⟩ := hv
  have hx := B.exec
  have hb := B.bytes
  have hr := B.returns
  have hts := atoms_spec (ws := wsX4_thrown) B.pre
  have hown : s.vm.findClass RX4 = some m.cls := findClass_of_methodNamed B.named
  have hlocks := B.notSynchronized
  have hinX4 : ∀ w ∈ wsX40, w ∈ wsX4_thrown := by decide +kernel
  have hP : va_P G.1 vwCl [(mo, .inr (4, [.int tv, .ref mc, .ref mw, .ref mz, .ref mv, .ref mp, .ref mh])), (mc, .inl (gI G, 4, .inl (kz_z cs))), (mw, .inl (gJ G, 480, .inr (.inl mW))), (mz, .inl (gI G, 480, .inl (kz_z mZ))), (mv, .inl (gI G, 480, .inl mV)), (mp, .inl (gZ G, 3, .inl (kz_bo po))), (mh, .inl (gI G, 3, .inl (kz_pw pw)))] s.heap := hP
  have hl := lv_entry ([.ref mo]) (n := 1) (Nat.le_of_ble_eq_true rfl)
  rw [lg_entry_eq]
  generalize (lg_sl ([.ref mo]) ++ List.replicate (1 - (lg_sl ([.ref mo])).length) Slot.unset).toArray = ls at hl ⊢
  have hl : lv_has ls 1 [(0, .ref mo)] := hl
  refine lv_aload_n hx hb dX4_thrown_0 rfl (lv_at hl 0 rfl) ?_
  refine va_get (D := G.1) (ci := 4) (v := .int tv) (C := RX4) (T := TX4) (N := 7) hx hb hts hinX4 hown hK.1 hP 0 rfl rfl 0 (by decide) (hts (.fieldLink RX4 30 "ForkStoreModel" "thrown" "I") (by decide +kernel)) (fun _ h9 => h9) rfl dX4_thrown_1 ?_
  exact W.iret (v := tv) hx hb hr (fun t ht hW => ⟨_, rfl, rfl, ht⟩) (fun _ h => nomatch h) dX4_thrown_4

set_option maxHeartbeats 4000000 in
set_option maxRecDepth 100000 in
theorem c_X4_order (l : Launch) (G : kz_G) (mo mc mw mz mv mp mh : Nat) (tv : Int32) (cs : Nat → Nat) (mW : Nat → Int64) (mZ : Nat → Nat) (mV : Nat → Int32) (po : Nat → Bool) (pw : Nat → Nat) (aa : Nat) (ww : Int64) (zz : Nat) (haa : aa < 480) : Met l yX4_order wsX4_order { frames := 0, cells := 0, slots := 0, locals := 0 } (kz_Pp G [.ref mo, .int (nI aa), .long ww, .int (nI zz)] [(mo, .inr (4, [.int tv, .ref mc, .ref mw, .ref mz, .ref mv, .ref mp, .ref mh])), (mc, .inl (gI G, 4, .inl (kz_z cs))), (mw, .inl (gJ G, 480, .inr (.inl mW))), (mz, .inl (gI G, 480, .inl (kz_z mZ))), (mv, .inl (gI G, 480, .inl mV)), (mp, .inl (gZ G, 3, .inl (kz_bo po))), (mh, .inl (gI G, 3, .inl (kz_pw pw)))]) (vp_Si (fun r => r = kf_od (mW aa) (mZ aa) ww zz)) 0 0 (fun _ => False) := by
  refine Met.ofW (cc := cX4_order) (maxL := 7) (ret := (some .int)) (by decide) rfl ?_
  intro p e s m args below meth c s₁ B hml hv
  obtain ⟨rfl, hP, hK⟩ := hv
  have hx := B.exec
  have hb := B.bytes
  have hr := B.returns
  have hts := atoms_spec (ws := wsX4_order) B.pre
  have hown : s.vm.findClass RX4 = some m.cls := findClass_of_methodNamed B.named
  have hlocks := B.notSynchronized
  have hinX4 : ∀ w ∈ wsX40, w ∈ wsX4_order := by decide +kernel
  have hP : va_P G.1 vwCl [(mo, .inr (4, [.int tv, .ref mc, .ref mw, .ref mz, .ref mv, .ref mp, .ref mh])), (mc, .inl (gI G, 4, .inl (kz_z cs))), (mw, .inl (gJ G, 480, .inr (.inl mW))), (mz, .inl (gI G, 480, .inl (kz_z mZ))), (mv, .inl (gI G, 480, .inl mV)), (mp, .inl (gZ G, 3, .inl (kz_bo po))), (mh, .inl (gI G, 3, .inl (kz_pw pw)))] s.heap := hP
  have hl := lv_entry ([.ref mo, .int (nI aa), .long ww, .int (nI zz)]) (n := 7) (Nat.le_of_ble_eq_true rfl)
  rw [lg_entry_eq]
  generalize (lg_sl ([.ref mo, .int (nI aa), .long ww, .int (nI zz)]) ++ List.replicate (7 - (lg_sl ([.ref mo, .int (nI aa), .long ww, .int (nI zz)])).length) Slot.unset).toArray = ls at hl ⊢
  have hl : lv_has ls 7 [(0, .ref mo), (1, .int (nI aa)), (2, .long ww), (4, .int (nI zz))] := hl
  refine lv_aload_n hx hb dX4_order_0 rfl (lv_at hl 0 rfl) ?_
  refine va_get (D := G.1) (ci := 4) (v := .ref mw) (C := RX4) (T := TX4) (N := 7) hx hb hts hinX4 hown hK.1 hP 0 rfl rfl 2 (by decide) (hts (.fieldLink RX4 13 "ForkStoreModel" "words" "[J") (by decide +kernel)) (fun _ h9 => h9) rfl dX4_order_1 ?_
  refine lv_iload_n hx hb dX4_order_4 rfl (lv_at hl 1 rfl) ?_
  refine kz_lald hx hb hK.1 hP 2 1 rfl rfl (k := aa) (by omega) (by decide) dX4_order_5 ?_
  refine lv_lstore (lv' := [(5, .long (mW aa)), (0, .ref mo), (1, .int (nI aa)), (2, .long ww), (4, .int (nI zz))]) hx hb dX4_order_6 hl (by decide) rfl (fun ls hl => ?_)
  refine lv_lload hx hb dX4_order_8 (lv_at hl 0 rfl) ?_
  refine lv_lload_n hx hb dX4_order_10 rfl (lv_at hl 3 rfl) ?_
  refine W.lcmp hx hb dX4_order_11 ?_
  refine lv_if_ne (tgt := 25) hx hb dX4_order_12 (by decide) (fun c_1 => ?_) (fun c_1 => ?_)
  · refine lv_lload hx hb dX4_order_25 (lv_at hl 0 rfl) ?_
    refine lv_ldc2 (v := (-9223372036854775808)) hx hb hown (hts (.constantLong RX4 34 (-9223372036854775808)) (by decide +kernel)) dX4_order_27 ?_
    refine lv_lxor hx hb dX4_order_30 ?_
    refine lv_lload_n hx hb dX4_order_31 rfl (lv_at hl 3 rfl) ?_
    refine lv_ldc2 (v := (-9223372036854775808)) hx hb hown (hts (.constantLong RX4 34 (-9223372036854775808)) (by decide +kernel)) dX4_order_32 ?_
    refine lv_lxor hx hb dX4_order_35 ?_
    refine W.lcmp hx hb dX4_order_36 ?_
    refine lv_if_ge (tgt := 44) hx hb dX4_order_37 (by decide) (fun c_2 => ?_) (fun c_2 => ?_)
    · refine lv_iconst (v := 1) hx hb dX4_order_44 (by decide) ?_
      exact W.iret (v := 1) hx hb hr (fun t ht hW => ⟨_, rfl, (by unfold kf_od; rw [if_neg (fun h => c_1 ((lg_cmp_eq _ _).mpr h)), if_neg (fun h => absurd ((lg_cmp_ge _ _).mp c_2) (Int64.not_le.mpr (by rw [kf_xormin, kf_xormin]; exact un_lt.mpr h)))]), ht⟩) (fun _ h => nomatch h) dX4_order_45
    · refine lv_iconst (v := (-1)) hx hb dX4_order_40 (by decide) ?_
      refine lv_goto (tgt := 45) hx hb dX4_order_41 (by decide) ?_
      exact W.iret (v := (-1)) hx hb hr (fun t ht hW => ⟨_, rfl, (by unfold kf_od; rw [if_neg (fun h => c_1 ((lg_cmp_eq _ _).mpr h)), if_pos (by rcases Decidable.em (un (mW aa) < un ww) with h | h; exact h; exact absurd ((lg_cmp_ge _ _).mpr (Int64.not_lt.mp (fun z => h (un_lt.mp (by rw [kf_xormin, kf_xormin] at z; exact z))))) c_2)]), ht⟩) (fun _ h => nomatch h) dX4_order_45
  · refine lv_aload_n hx hb dX4_order_15 rfl (lv_at hl 1 rfl) ?_
    refine va_get (D := G.1) (ci := 4) (v := .ref mz) (C := RX4) (T := TX4) (N := 7) hx hb hts hinX4 hown hK.1 hP 0 rfl rfl 3 (by decide) (hts (.fieldLink RX4 17 "ForkStoreModel" "sizes" "[I") (by decide +kernel)) (fun _ h9 => h9) rfl dX4_order_16 ?_
    refine lv_iload_n hx hb dX4_order_19 rfl (lv_at hl 2 rfl) ?_
    refine kz_iald hx hb hK.1 hP 3 0 rfl rfl (k := aa) (by omega) (by decide) dX4_order_20 ?_
    refine kz_asi (y := nI (mZ aa)) rfl ?_
    refine lv_iload hx hb dX4_order_21 (lv_at hl 4 rfl) ?_
    refine lv_isub hx hb dX4_order_23 ?_
    exact W.iret (v := (nI (mZ aa)) - (nI zz)) hx hb hr (fun t ht hW => ⟨_, rfl, (if_pos ((lg_cmp_eq _ _).mp c_1)).symm, ht⟩) (fun _ h => nomatch h) dX4_order_24

set_option maxHeartbeats 4000000 in
set_option maxRecDepth 100000 in
theorem c_X4_place (l : Launch) (G : kz_G) (mo mc mw mz mv mp mh : Nat) (tv : Int32) (cs : Nat → Nat) (mW : Nat → Int64) (mZ : Nat → Nat) (mV : Nat → Int32) (po : Nat → Bool) (pw : Nat → Nat) (ro : Nat) (ww : Int64) (zz : Nat) (hcs : ∀ j, cs j ≤ 120) (hmz : ∀ j, mZ j ≤ 8) (hro : ro < 4) (hzz : zz ≤ 8) : Met l yX4_place wsX4_place { frames := 1, cells := 0, slots := 0, locals := 26 } (kz_Pp G [.ref mo, .int (nI ro), .long ww, .int (nI zz)] [(mo, .inr (4, [.int tv, .ref mc, .ref mw, .ref mz, .ref mv, .ref mp, .ref mh])), (mc, .inl (gI G, 4, .inl (kz_z cs))), (mw, .inl (gJ G, 480, .inr (.inl mW))), (mz, .inl (gI G, 480, .inl (kz_z mZ))), (mv, .inl (gI G, 480, .inl mV)), (mp, .inl (gZ G, 3, .inl (kz_bo po))), (mh, .inl (gI G, 3, .inl (kz_pw pw)))]) (vp_Si (fun r => r = nI (120 * ro + kf_cb (kf_row mW ro) (kf_row mZ ro) ww zz (cs ro)))) 0 0 (fun _ => False) := by
  refine Met.ofW (cc := cX4_place) (maxL := 6) (ret := (some .int)) (by decide) rfl ?_
  intro p e s m args below meth c s₁ B hml hv
  obtain ⟨rfl, hP, hK⟩ := hv
  have hx := B.exec
  have hb := B.bytes
  have hr := B.returns
  have hts := atoms_spec (ws := wsX4_place) B.pre
  have hown : s.vm.findClass RX4 = some m.cls := findClass_of_methodNamed B.named
  have hlocks := B.notSynchronized
  have hinX4 : ∀ w ∈ wsX40, w ∈ wsX4_place := by decide +kernel
  have hP : va_P G.1 vwCl [(mo, .inr (4, [.int tv, .ref mc, .ref mw, .ref mz, .ref mv, .ref mp, .ref mh])), (mc, .inl (gI G, 4, .inl (kz_z cs))), (mw, .inl (gJ G, 480, .inr (.inl mW))), (mz, .inl (gI G, 480, .inl (kz_z mZ))), (mv, .inl (gI G, 480, .inl mV)), (mp, .inl (gZ G, 3, .inl (kz_bo po))), (mh, .inl (gI G, 3, .inl (kz_pw pw)))] s.heap := hP
  have hl := lv_entry ([.ref mo, .int (nI ro), .long ww, .int (nI zz)]) (n := 6) (Nat.le_of_ble_eq_true rfl)
  rw [lg_entry_eq]
  generalize (lg_sl ([.ref mo, .int (nI ro), .long ww, .int (nI zz)]) ++ List.replicate (6 - (lg_sl ([.ref mo, .int (nI ro), .long ww, .int (nI zz)])).length) Slot.unset).toArray = ls at hl ⊢
  have hl : lv_has ls 6 [(0, .ref mo), (1, .int (nI ro)), (2, .long ww), (4, .int (nI zz))] := hl
  have hcr := hcs ro
  refine lv_bipush (v := 120) hx hb dX4_place_0 (by decide) ?_
  refine lv_iload_n hx hb dX4_place_2 rfl (lv_at hl 1 rfl) ?_
  refine lv_imul hx hb dX4_place_3 ?_
  refine kz_asi (y := nI (120 * ro)) (pk_mul 120 ro) ?_
  refine lv_istore (lv' := [(5, .int (nI (120 * ro))), (0, .ref mo), (1, .int (nI ro)), (2, .long ww), (4, .int (nI zz))]) hx hb dX4_place_4 hl (by decide) rfl (fun ls hl => ?_)
  refine kz_loopf (nL := 6) (hd := 6) (e9 := cs ro) (i0 := 0) (LV := fun ii => [(5, .int (nI (120 * ro + ii))), (0, .ref mo), (1, .int (nI ro)), (2, .long ww), (4, .int (nI zz))]) (F := fun ii => kf_cbn (kf_row mW ro) (kf_row mZ ro) ww zz (cs ro - ii) ii = kf_cb (kf_row mW ro) (kf_row mZ ro) ww zz (cs ro)) (fun ii ls hii hl hfin ih => ?_) (Nat.zero_le _) (lv_sub hl [0, 1, 2, 3, 4] rfl) rfl
  have hl : lv_has ls 6 [(5, .int (nI (120 * ro + ii))), (0, .ref mo), (1, .int (nI ro)), (2, .long ww), (4, .int (nI zz))] := hl
  have hfin : kf_cbn (kf_row mW ro) (kf_row mZ ro) ww zz (cs ro - ii) ii = kf_cb (kf_row mW ro) (kf_row mZ ro) ww zz (cs ro) := hfin
  refine lv_iload hx hb dX4_place_6 (lv_at hl 0 rfl) ?_
  refine lv_bipush (v := 120) hx hb dX4_place_8 (by decide) ?_
  refine lv_iload_n hx hb dX4_place_10 rfl (lv_at hl 2 rfl) ?_
  refine lv_imul hx hb dX4_place_11 ?_
  refine kz_asi (y := nI (120 * ro)) (pk_mul 120 ro) ?_
  refine lv_aload_n hx hb dX4_place_12 rfl (lv_at hl 1 rfl) ?_
  refine va_get (D := G.1) (ci := 4) (v := .ref mc) (C := RX4) (T := TX4) (N := 7) hx hb hts hinX4 hown hK.1 hP 0 rfl rfl 1 (by decide) (hts (.fieldLink RX4 7 "ForkStoreModel" "counts" "[I") (by decide +kernel)) (fun _ h9 => h9) rfl dX4_place_13 ?_
  refine lv_iload_n hx hb dX4_place_16 rfl (lv_at hl 2 rfl) ?_
  refine kz_iald hx hb hK.1 hP 1 0 rfl rfl (k := ro) (by omega) (by decide) dX4_place_17 ?_
  refine kz_asi (y := nI (cs ro)) rfl ?_
  refine lv_iadd hx hb dX4_place_18 ?_
  refine kz_asi (y := nI (120 * ro + cs ro)) (nI_add _ _) ?_
  refine lv_icmp_ge (tgt := 40) hx hb dX4_place_19 (by decide) (fun c_1 => ?_) (fun c_1 => ?_)
  · have kc_1 : cs ro ≤ ii := by
      have := (nI_leI (by omega) (by omega)).mp c_1
      omega
    refine lv_iload hx hb dX4_place_40 (lv_at hl 0 rfl) ?_
    have hq : nI (120 * ro + ii) = nI (120 * ro + kf_cb (kf_row mW ro) (kf_row mZ ro) ww zz (cs ro)) := by
      rw [← hfin, show cs ro - ii = 0 from by omega]
      rfl
    exact W.iret (v := nI (120 * ro + ii)) hx hb hr (fun t ht hW => ⟨_, rfl, hq, ht⟩) (fun _ h => nomatch h) dX4_place_42
  · have kc_1 : ii < cs ro := by
      have : ¬ 120 * ro + cs ro ≤ 120 * ro + ii := fun h => c_1 (nI_le h (by omega))
      omega
    refine lv_aload_n hx hb dX4_place_22 rfl (lv_at hl 1 rfl) ?_
    refine lv_iload hx hb dX4_place_23 (lv_at hl 0 rfl) ?_
    refine lv_lload_n hx hb dX4_place_25 rfl (lv_at hl 3 rfl) ?_
    refine lv_iload hx hb dX4_place_26 (lv_at hl 4 rfl) ?_
    have hPc := hP.sub (ws' := [(mo, .inr (4, [.int tv, .ref mc, .ref mw, .ref mz, .ref mv, .ref mp, .ref mh])), (mc, .inl (gI G, 4, .inl (kz_z cs))), (mw, .inl (gJ G, 480, .inr (.inl mW))), (mz, .inl (gI G, 480, .inl (kz_z mZ))), (mv, .inl (gI G, 480, .inl mV)), (mp, .inl (gZ G, 3, .inl (kz_bo po))), (mh, .inl (gI G, 3, .inl (kz_pw pw)))]) [0, 1, 2, 3, 4, 5, 6] rfl
    refine kz_ci (v := kf_od (mW (120 * ro + ii)) (mZ (120 * ro + ii)) ww zz) (va_runV (As := [.int (nI (120 * ro + ii)), .long ww, .int (nI zz)]) (rest := []) ⟨hx, hb, hml, hown, hts⟩ (c_X4_order l G mo mc mw mz mv mp mh tv cs mW mZ mV po pw (120 * ro + ii) ww zz (by omega)) (cwV 3 hts gX4_place_X4_order rfl rfl rfl (by decide +kernel) ⟨Nat.le_of_ble_eq_true rfl, Nat.le_of_ble_eq_true rfl⟩) (kz_pv hK hPc (va_recv hK.1 hPc (ci := 4) (q0 := 0) rfl rfl)) rfl rfl hl.1 rfl (lv_room (Nat.le_of_ble_eq_true rfl)) dX4_place_28 ⟨Nat.zero_le _, Nat.zero_le _⟩).run ?_
    refine lv_if_ge (tgt := 40) hx hb dX4_place_31 (by decide) (fun c_2 => ?_) (fun c_2 => ?_)
    · have hno : ¬ kf_lt (kf_row mW ro ii) (kf_row mZ ro ii) ww zz = true := fun h => absurd ((kf_od_lt (hmz _) hzz).mpr h) (Int32.not_lt.mpr c_2)
      refine lv_iload hx hb dX4_place_40 (lv_at hl 0 rfl) ?_
      have hq : nI (120 * ro + ii) = nI (120 * ro + kf_cb (kf_row mW ro) (kf_row mZ ro) ww zz (cs ro)) := by
        rw [← hfin, show cs ro - ii = (cs ro - ii - 1) + 1 from by omega]
        unfold kf_cbn
        rw [if_neg hno]
      exact W.iret (v := nI (120 * ro + ii)) hx hb hr (fun t ht hW => ⟨_, rfl, hq, ht⟩) (fun _ h => nomatch h) dX4_place_42
    · have hgo : kf_lt (kf_row mW ro ii) (kf_row mZ ro ii) ww zz = true := (kf_od_lt (hmz _) hzz).mp (Int32.not_le.mp c_2)
      refine lv_iinc (v := nI (120 * ro + (ii + 1))) (lv' := [(5, .int (nI (120 * ro + (ii + 1)))), (0, .ref mo), (1, .int (nI ro)), (2, .long ww), (4, .int (nI zz))]) hx hb dX4_place_34 hl (k := 0) rfl (nI_1 (120 * ro + ii)) (by decide) rfl (fun ls hl => ?_)
      refine lv_goto (tgt := 6) hx hb dX4_place_37 (by decide) ?_
      have hfin2 : kf_cbn (kf_row mW ro) (kf_row mZ ro) ww zz (cs ro - (ii + 1)) (ii + 1) = kf_cb (kf_row mW ro) (kf_row mZ ro) ww zz (cs ro) := by
        rw [← hfin, show cs ro - ii = (cs ro - (ii + 1)) + 1 from by omega]
        conv => rhs; unfold kf_cbn
        rw [if_pos hgo]
      exact ih ls (by omega) (lv_sub hl [0, 1, 2, 3, 4] rfl) hfin2

set_option maxHeartbeats 4000000 in
set_option maxRecDepth 100000 in
theorem c_X4_has (l : Launch) (G : kz_G) (mo mc mw mz mv mp mh : Nat) (tv : Int32) (cs : Nat → Nat) (mW : Nat → Int64) (mZ : Nat → Nat) (mV : Nat → Int32) (po : Nat → Bool) (pw : Nat → Nat) (ro kk : Nat) (ww : Int64) (zz : Nat) (hcs : ∀ j, cs j ≤ 120) (hmz : ∀ j, mZ j ≤ 8) (hro : ro < 4) (hkk : kk ≤ 120) (hzz : zz ≤ 8) : Met l yX4_has wsX4_has { frames := 1, cells := 0, slots := 0, locals := 26 } (kz_Pp G [.ref mo, .int (nI ro), .int (nI (120 * ro + kk)), .long ww, .int (nI zz)] [(mo, .inr (4, [.int tv, .ref mc, .ref mw, .ref mz, .ref mv, .ref mp, .ref mh])), (mc, .inl (gI G, 4, .inl (kz_z cs))), (mw, .inl (gJ G, 480, .inr (.inl mW))), (mz, .inl (gI G, 480, .inl (kz_z mZ))), (mv, .inl (gI G, 480, .inl mV)), (mp, .inl (gZ G, 3, .inl (kz_bo po))), (mh, .inl (gI G, 3, .inl (kz_pw pw)))]) (vp_Si (fun r => r = if kk < cs ro ∧ kf_row mW ro kk = ww ∧ kf_row mZ ro kk = zz then 1 else 0)) 0 0 (fun _ => False) := by
  refine Met.ofW (cc := cX4_has) (maxL := 6) (ret := (some .boolean)) (by decide) rfl ?_
  intro p e s m args below meth c s₁ B hml hv
  obtain ⟨rfl, hP, hK⟩ := hv
  have hx := B.exec
  have hb := B.bytes
  have hr := B.returns
  have hts := atoms_spec (ws := wsX4_has) B.pre
  have hown : s.vm.findClass RX4 = some m.cls := findClass_of_methodNamed B.named
  have hlocks := B.notSynchronized
  have hinX4 : ∀ w ∈ wsX40, w ∈ wsX4_has := by decide +kernel
  have hP : va_P G.1 vwCl [(mo, .inr (4, [.int tv, .ref mc, .ref mw, .ref mz, .ref mv, .ref mp, .ref mh])), (mc, .inl (gI G, 4, .inl (kz_z cs))), (mw, .inl (gJ G, 480, .inr (.inl mW))), (mz, .inl (gI G, 480, .inl (kz_z mZ))), (mv, .inl (gI G, 480, .inl mV)), (mp, .inl (gZ G, 3, .inl (kz_bo po))), (mh, .inl (gI G, 3, .inl (kz_pw pw)))] s.heap := hP
  have hl := lv_entry ([.ref mo, .int (nI ro), .int (nI (120 * ro + kk)), .long ww, .int (nI zz)]) (n := 6) (Nat.le_of_ble_eq_true rfl)
  rw [lg_entry_eq]
  generalize (lg_sl ([.ref mo, .int (nI ro), .int (nI (120 * ro + kk)), .long ww, .int (nI zz)]) ++ List.replicate (6 - (lg_sl ([.ref mo, .int (nI ro), .int (nI (120 * ro + kk)), .long ww, .int (nI zz)])).length) Slot.unset).toArray = ls at hl ⊢
  have hl : lv_has ls 6 [(0, .ref mo), (1, .int (nI ro)), (2, .int (nI (120 * ro + kk))), (3, .long ww), (5, .int (nI zz))] := hl
  have hcr := hcs ro
  refine lv_iload_n hx hb dX4_has_0 rfl (lv_at hl 2 rfl) ?_
  refine lv_bipush (v := 120) hx hb dX4_has_1 (by decide) ?_
  refine lv_iload_n hx hb dX4_has_3 rfl (lv_at hl 1 rfl) ?_
  refine lv_imul hx hb dX4_has_4 ?_
  refine kz_asi (y := nI (120 * ro)) (pk_mul 120 ro) ?_
  refine lv_aload_n hx hb dX4_has_5 rfl (lv_at hl 0 rfl) ?_
  refine va_get (D := G.1) (ci := 4) (v := .ref mc) (C := RX4) (T := TX4) (N := 7) hx hb hts hinX4 hown hK.1 hP 0 rfl rfl 1 (by decide) (hts (.fieldLink RX4 7 "ForkStoreModel" "counts" "[I") (by decide +kernel)) (fun _ h9 => h9) rfl dX4_has_6 ?_
  refine lv_iload_n hx hb dX4_has_9 rfl (lv_at hl 1 rfl) ?_
  refine kz_iald hx hb hK.1 hP 1 0 rfl rfl (k := ro) (by omega) (by decide) dX4_has_10 ?_
  refine kz_asi (y := nI (cs ro)) rfl ?_
  refine lv_iadd hx hb dX4_has_11 ?_
  refine kz_asi (y := nI (120 * ro + cs ro)) (nI_add _ _) ?_
  refine lv_icmp_ge (tgt := 30) hx hb dX4_has_12 (by decide) (fun c_1 => ?_) (fun c_1 => ?_)
  · have kc_1 : ¬ kk < cs ro := by
      have := (nI_leI (by omega) (by omega)).mp c_1
      omega
    refine lv_iconst (v := 0) hx hb dX4_has_30 (by decide) ?_
    exact W.zret (v := 0) hx hb hr rfl (fun t ht hW => ⟨_, rfl, (if_neg (fun h => kc_1 h.1)).symm, ht⟩) (fun _ h => nomatch h) dX4_has_31
  · have kc_1 : kk < cs ro := by
      have : ¬ 120 * ro + cs ro ≤ 120 * ro + kk := fun h => c_1 (nI_le h (by omega))
      omega
    refine lv_aload_n hx hb dX4_has_15 rfl (lv_at hl 0 rfl) ?_
    refine lv_iload_n hx hb dX4_has_16 rfl (lv_at hl 2 rfl) ?_
    refine lv_lload_n hx hb dX4_has_17 rfl (lv_at hl 3 rfl) ?_
    refine lv_iload hx hb dX4_has_18 (lv_at hl 4 rfl) ?_
    have hPc := hP.sub (ws' := [(mo, .inr (4, [.int tv, .ref mc, .ref mw, .ref mz, .ref mv, .ref mp, .ref mh])), (mc, .inl (gI G, 4, .inl (kz_z cs))), (mw, .inl (gJ G, 480, .inr (.inl mW))), (mz, .inl (gI G, 480, .inl (kz_z mZ))), (mv, .inl (gI G, 480, .inl mV)), (mp, .inl (gZ G, 3, .inl (kz_bo po))), (mh, .inl (gI G, 3, .inl (kz_pw pw)))]) [0, 1, 2, 3, 4, 5, 6] rfl
    refine kz_ci (v := kf_od (mW (120 * ro + kk)) (mZ (120 * ro + kk)) ww zz) (va_runV (As := [.int (nI (120 * ro + kk)), .long ww, .int (nI zz)]) (rest := []) ⟨hx, hb, hml, hown, hts⟩ (c_X4_order l G mo mc mw mz mv mp mh tv cs mW mZ mV po pw (120 * ro + kk) ww zz (by omega)) (cwV 3 hts gX4_has_X4_order rfl rfl rfl (by decide +kernel) ⟨Nat.le_of_ble_eq_true rfl, Nat.le_of_ble_eq_true rfl⟩) (kz_pv hK hPc (va_recv hK.1 hPc (ci := 4) (q0 := 0) rfl rfl)) rfl rfl hl.1 rfl (lv_room (Nat.le_of_ble_eq_true rfl)) dX4_has_20 ⟨Nat.zero_le _, Nat.zero_le _⟩).run ?_
    refine lv_if_ne (tgt := 30) hx hb dX4_has_23 (by decide) (fun c_2 => ?_) (fun c_2 => ?_)
    · refine lv_iconst (v := 0) hx hb dX4_has_30 (by decide) ?_
      exact W.zret (v := 0) hx hb hr rfl (fun t ht hW => ⟨_, rfl, (if_neg (fun h => c_2 ((kf_od_eq (hmz _) hzz).mpr h.2))).symm, ht⟩) (fun _ h => nomatch h) dX4_has_31
    · refine lv_iconst (v := 1) hx hb dX4_has_26 (by decide) ?_
      refine lv_goto (tgt := 31) hx hb dX4_has_27 (by decide) ?_
      exact W.zret (v := 1) hx hb hr rfl (fun t ht hW => ⟨_, rfl, (if_pos ⟨kc_1, (kf_od_eq (hmz _) hzz).mp c_2⟩).symm, ht⟩) (fun _ h => nomatch h) dX4_has_31

set_option maxHeartbeats 4000000 in
set_option maxRecDepth 100000 in
theorem c_X4_begins (l : Launch) (G : kz_G) (mo mc mw mz mv mp mh : Nat) (tv : Int32) (cs : Nat → Nat) (mW : Nat → Int64) (mZ : Nat → Nat) (mV : Nat → Int32) (po : Nat → Bool) (pw : Nat → Nat) (aa : Nat) (ww : Int64) (zz : Nat) (hmz : ∀ j, mZ j ≤ 8) (haa : aa < 480) (hzz : zz ≤ 8) : Met l yX4_begins wsX4_begins { frames := 1, cells := 0, slots := 0, locals := 22 } (kz_Pp G [.ref mo, .int (nI aa), .long ww, .int (nI zz)] [(mo, .inr (4, [.int tv, .ref mc, .ref mw, .ref mz, .ref mv, .ref mp, .ref mh])), (mc, .inl (gI G, 4, .inl (kz_z cs))), (mw, .inl (gJ G, 480, .inr (.inl mW))), (mz, .inl (gI G, 480, .inl (kz_z mZ))), (mv, .inl (gI G, 480, .inl mV)), (mp, .inl (gZ G, 3, .inl (kz_bo po))), (mh, .inl (gI G, 3, .inl (kz_pw pw)))]) (vp_Si (fun r => r = if kf_bg (mW aa) (mZ aa) ww zz then 1 else 0)) 0 0 (fun _ => False) := by
  refine Met.ofW (cc := cX4_begins) (maxL := 5) (ret := (some .boolean)) (by decide) rfl ?_
  intro p e s m args below meth c s₁ B hml hv
  obtain ⟨rfl, hP, hK⟩ := hv
  have hx := B.exec
  have hb := B.bytes
  have hr := B.returns
  have hts := atoms_spec (ws := wsX4_begins) B.pre
  have hown : s.vm.findClass RX4 = some m.cls := findClass_of_methodNamed B.named
  have hlocks := B.notSynchronized
  have hinX4 : ∀ w ∈ wsX40, w ∈ wsX4_begins := by decide +kernel
  have hP : va_P G.1 vwCl [(mo, .inr (4, [.int tv, .ref mc, .ref mw, .ref mz, .ref mv, .ref mp, .ref mh])), (mc, .inl (gI G, 4, .inl (kz_z cs))), (mw, .inl (gJ G, 480, .inr (.inl mW))), (mz, .inl (gI G, 480, .inl (kz_z mZ))), (mv, .inl (gI G, 480, .inl mV)), (mp, .inl (gZ G, 3, .inl (kz_bo po))), (mh, .inl (gI G, 3, .inl (kz_pw pw)))] s.heap := hP
  have hl := lv_entry ([.ref mo, .int (nI aa), .long ww, .int (nI zz)]) (n := 5) (Nat.le_of_ble_eq_true rfl)
  rw [lg_entry_eq]
  generalize (lg_sl ([.ref mo, .int (nI aa), .long ww, .int (nI zz)]) ++ List.replicate (5 - (lg_sl ([.ref mo, .int (nI aa), .long ww, .int (nI zz)])).length) Slot.unset).toArray = ls at hl ⊢
  have hl : lv_has ls 5 [(0, .ref mo), (1, .int (nI aa)), (2, .long ww), (4, .int (nI zz))] := hl
  refine lv_aload_n hx hb dX4_begins_0 rfl (lv_at hl 0 rfl) ?_
  refine va_get (D := G.1) (ci := 4) (v := .ref mz) (C := RX4) (T := TX4) (N := 7) hx hb hts hinX4 hown hK.1 hP 0 rfl rfl 3 (by decide) (hts (.fieldLink RX4 17 "ForkStoreModel" "sizes" "[I") (by decide +kernel)) (fun _ h9 => h9) rfl dX4_begins_1 ?_
  refine lv_iload_n hx hb dX4_begins_4 rfl (lv_at hl 1 rfl) ?_
  refine kz_iald hx hb hK.1 hP 3 0 rfl rfl (k := aa) (by omega) (by decide) dX4_begins_5 ?_
  refine kz_asi (y := nI (mZ aa)) rfl ?_
  refine lv_iload hx hb dX4_begins_6 (lv_at hl 3 rfl) ?_
  refine lv_icmp_lt (tgt := 31) hx hb dX4_begins_8 (by decide) (fun c_1 => ?_) (fun c_1 => ?_)
  · have kc_1 : ¬ zz ≤ mZ aa := fun h => absurd ((nI_ltI (by have := hmz aa; omega) (by omega)).mp c_1) (by omega)
    refine lv_iconst (v := 0) hx hb dX4_begins_31 (by decide) ?_
    exact W.zret (v := 0) hx hb hr rfl (fun t ht hW => ⟨_, rfl, (if_neg (fun h => kc_1 h.1)).symm, ht⟩) (fun _ h => nomatch h) dX4_begins_32
  · have kc_1 : zz ≤ mZ aa := by
      have : ¬ mZ aa < zz := fun h => c_1 (nI_lt h (by omega))
      omega
    refine lv_aload_n hx hb dX4_begins_11 rfl (lv_at hl 0 rfl) ?_
    refine va_get (D := G.1) (ci := 4) (v := .ref mw) (C := RX4) (T := TX4) (N := 7) hx hb hts hinX4 hown hK.1 hP 0 rfl rfl 2 (by decide) (hts (.fieldLink RX4 13 "ForkStoreModel" "words" "[J") (by decide +kernel)) (fun _ h9 => h9) rfl dX4_begins_12 ?_
    refine lv_iload_n hx hb dX4_begins_15 rfl (lv_at hl 1 rfl) ?_
    refine kz_lald hx hb hK.1 hP 2 1 rfl rfl (k := aa) (by omega) (by decide) dX4_begins_16 ?_
    refine lv_iload hx hb dX4_begins_17 (lv_at hl 3 rfl) ?_
    refine kz_cl (v := kf_cut (mW aa) zz) (va_runS (As := [.long (mW aa), .int (nI zz)]) (rest := []) ⟨hx, hb, hml, hown, hts⟩ (c_X4_cut l (mW aa) zz (by omega)) (va_cwS 2 hts gX4_begins_X4_cut rfl rfl rfl (by decide +kernel) ⟨Nat.le_of_ble_eq_true rfl, Nat.le_of_ble_eq_true rfl⟩) kz_ps0 rfl rfl hl.1 rfl (lv_room (Nat.le_of_ble_eq_true rfl)) dX4_begins_19 ⟨Nat.zero_le _, Nat.zero_le _⟩).run ?_
    refine lv_lload_n hx hb dX4_begins_22 rfl (lv_at hl 2 rfl) ?_
    refine W.lcmp hx hb dX4_begins_23 ?_
    refine lv_if_ne (tgt := 31) hx hb dX4_begins_24 (by decide) (fun c_2 => ?_) (fun c_2 => ?_)
    · refine lv_iconst (v := 0) hx hb dX4_begins_31 (by decide) ?_
      exact W.zret (v := 0) hx hb hr rfl (fun t ht hW => ⟨_, rfl, (if_neg (fun h => c_2 ((lg_cmp_eq _ _).mpr h.2))).symm, ht⟩) (fun _ h => nomatch h) dX4_begins_32
    · refine lv_iconst (v := 1) hx hb dX4_begins_27 (by decide) ?_
      refine lv_goto (tgt := 32) hx hb dX4_begins_28 (by decide) ?_
      exact W.zret (v := 1) hx hb hr rfl (fun t ht hW => ⟨_, rfl, (if_pos ⟨kc_1, (lg_cmp_eq _ _).mp c_2⟩).symm, ht⟩) (fun _ h => nomatch h) dX4_begins_32

set_option maxHeartbeats 4000000 in
set_option maxRecDepth 100000 in
theorem c_X4_copy (l : Launch) (G : kz_G) (mo mc mw mz mv mp mh : Nat) (tv : Int32) (cs : Nat → Nat) (mW : Nat → Int64) (mZ : Nat → Nat) (mV : Nat → Int32) (po : Nat → Bool) (pw : Nat → Nat) (aa bb : Nat) (sz : Nat) (haa : aa < 480) (hbb : bb < 480) : Met l yX4_copy wsX4_copy { frames := 0, cells := 0, slots := 0, locals := 0 } (kz_Pm G [.ref mo, .int (nI aa), .int (nI bb)] [(mo, .inr (4, [.int tv, .ref mc, .ref mw, .ref mz, .ref mv, .ref mp, .ref mh])), (mc, .inl (gI G, 4, .inl (kz_z cs))), (mw, .inl (gJ G, 480, .inr (.inl mW))), (mz, .inl (gI G, 480, .inl (kz_z mZ))), (mv, .inl (gI G, 480, .inl mV)), (mp, .inl (gZ G, 3, .inl (kz_bo po))), (mh, .inl (gI G, 3, .inl (kz_pw pw)))] sz) (kz_Qv G (fun w => w = [(mo, .inr (4, [.int tv, .ref mc, .ref mw, .ref mz, .ref mv, .ref mp, .ref mh])), (mc, .inl (gI G, 4, .inl (kz_z cs))), (mw, .inl (gJ G, 480, .inr (.inl (vp_updL mW bb (mW aa))))), (mz, .inl (gI G, 480, .inl (kz_z (kz_un mZ bb (mZ aa))))), (mv, .inl (gI G, 480, .inl (upd mV bb (mV aa)))), (mp, .inl (gZ G, 3, .inl (kz_bo po))), (mh, .inl (gI G, 3, .inl (kz_pw pw)))]) (va_A [(mo, .inr (4, [.int tv, .ref mc, .ref mw, .ref mz, .ref mv, .ref mp, .ref mh])), (mc, .inl (gI G, 4, .inl (kz_z cs))), (mw, .inl (gJ G, 480, .inr (.inl mW))), (mz, .inl (gI G, 480, .inl (kz_z mZ))), (mv, .inl (gI G, 480, .inl mV)), (mp, .inl (gZ G, 3, .inl (kz_bo po))), (mh, .inl (gI G, 3, .inl (kz_pw pw)))] sz)) 0 0 (va_A [(mo, .inr (4, [.int tv, .ref mc, .ref mw, .ref mz, .ref mv, .ref mp, .ref mh])), (mc, .inl (gI G, 4, .inl (kz_z cs))), (mw, .inl (gJ G, 480, .inr (.inl mW))), (mz, .inl (gI G, 480, .inl (kz_z mZ))), (mv, .inl (gI G, 480, .inl mV)), (mp, .inl (gZ G, 3, .inl (kz_bo po))), (mh, .inl (gI G, 3, .inl (kz_pw pw)))] sz) := by
  refine Met.ofW (cc := cX4_copy) (maxL := 3) (ret := none) (by decide) rfl ?_
  intro p e s m args below meth c s₁ B hml hv
  obtain ⟨rfl, hsz, hP, hK, hD0⟩ := hv
  have hx := B.exec
  have hb := B.bytes
  have hr := B.returns
  have hts := atoms_spec (ws := wsX4_copy) B.pre
  have hown : s.vm.findClass RX4 = some m.cls := findClass_of_methodNamed B.named
  have hlocks := B.notSynchronized
  have hinX4 : ∀ w ∈ wsX40, w ∈ wsX4_copy := by decide +kernel
  subst hsz
  have hD := hD0.self (sz := s.heap.size)
  generalize hAe : va_A [(mo, .inr (4, [.int tv, .ref mc, .ref mw, .ref mz, .ref mv, .ref mp, .ref mh])), (mc, .inl (gI G, 4, .inl (kz_z cs))), (mw, .inl (gJ G, 480, .inr (.inl mW))), (mz, .inl (gI G, 480, .inl (kz_z mZ))), (mv, .inl (gI G, 480, .inl mV)), (mp, .inl (gZ G, 3, .inl (kz_bo po))), (mh, .inl (gI G, 3, .inl (kz_pw pw)))] s.heap.size = A at hD ⊢
  have hA : ∀ q : Nat, s.heap.size ≤ q → A q := fun q h => by rw [← hAe]; exact Or.inr h
  have hS : va_S A s.heap s.heap [] := va_S.rf
  have hP : va_P G.1 vwCl [(mo, .inr (4, [.int tv, .ref mc, .ref mw, .ref mz, .ref mv, .ref mp, .ref mh])), (mc, .inl (gI G, 4, .inl (kz_z cs))), (mw, .inl (gJ G, 480, .inr (.inl mW))), (mz, .inl (gI G, 480, .inl (kz_z mZ))), (mv, .inl (gI G, 480, .inl mV)), (mp, .inl (gZ G, 3, .inl (kz_bo po))), (mh, .inl (gI G, 3, .inl (kz_pw pw)))] s.heap := hP
  have hl := lv_entry ([.ref mo, .int (nI aa), .int (nI bb)]) (n := 3) (Nat.le_of_ble_eq_true rfl)
  rw [lg_entry_eq]
  generalize (lg_sl ([.ref mo, .int (nI aa), .int (nI bb)]) ++ List.replicate (3 - (lg_sl ([.ref mo, .int (nI aa), .int (nI bb)])).length) Slot.unset).toArray = ls at hl ⊢
  have hl : lv_has ls 3 [(0, .ref mo), (1, .int (nI aa)), (2, .int (nI bb))] := hl
  refine lv_aload_n hx hb dX4_copy_0 rfl (lv_at hl 0 rfl) ?_
  refine va_get (D := G.1) (ci := 4) (v := .ref mw) (C := RX4) (T := TX4) (N := 7) hx hb hts hinX4 hown hK.1 hP 0 rfl rfl 2 (by decide) (hts (.fieldLink RX4 13 "ForkStoreModel" "words" "[J") (by decide +kernel)) (fun _ h9 => h9) rfl dX4_copy_1 ?_
  refine lv_iload_n hx hb dX4_copy_4 rfl (lv_at hl 2 rfl) ?_
  refine lv_aload_n hx hb dX4_copy_5 rfl (lv_at hl 0 rfl) ?_
  refine va_get (D := G.1) (ci := 4) (v := .ref mw) (C := RX4) (T := TX4) (N := 7) hx hb hts hinX4 hown hK.1 hP 0 rfl rfl 2 (by decide) (hts (.fieldLink RX4 13 "ForkStoreModel" "words" "[J") (by decide +kernel)) (fun _ h9 => h9) rfl dX4_copy_6 ?_
  refine lv_iload_n hx hb dX4_copy_9 rfl (lv_at hl 1 rfl) ?_
  refine kz_lald hx hb hK.1 hP 2 1 rfl rfl (k := aa) (by omega) (by decide) dX4_copy_10 ?_
  refine kz_last hx hb hK.1 hP hD hS 2 1 rfl rfl (k := bb) (by omega) (by decide) dX4_copy_11 (fun H locs hP hD hS => ?_)
  have hP : va_P G.1 vwCl [(mo, .inr (4, [.int tv, .ref mc, .ref mw, .ref mz, .ref mv, .ref mp, .ref mh])), (mc, .inl (gI G, 4, .inl (kz_z cs))), (mw, .inl (gJ G, 480, .inr (.inl (vp_updL mW bb (mW aa))))), (mz, .inl (gI G, 480, .inl (kz_z mZ))), (mv, .inl (gI G, 480, .inl mV)), (mp, .inl (gZ G, 3, .inl (kz_bo po))), (mh, .inl (gI G, 3, .inl (kz_pw pw)))] H := hP
  have hD : va_D A [(mo, .inr (4, [.int tv, .ref mc, .ref mw, .ref mz, .ref mv, .ref mp, .ref mh])), (mc, .inl (gI G, 4, .inl (kz_z cs))), (mw, .inl (gJ G, 480, .inr (.inl (vp_updL mW bb (mW aa))))), (mz, .inl (gI G, 480, .inl (kz_z mZ))), (mv, .inl (gI G, 480, .inl mV)), (mp, .inl (gZ G, 3, .inl (kz_bo po))), (mh, .inl (gI G, 3, .inl (kz_pw pw)))] := hD
  refine lv_aload_n hx hb dX4_copy_12 rfl (lv_at hl 0 rfl) ?_
  refine va_get (D := G.1) (ci := 4) (v := .ref mz) (C := RX4) (T := TX4) (N := 7) hx hb hts hinX4 hown hK.1 hP 0 rfl rfl 3 (by decide) (hts (.fieldLink RX4 17 "ForkStoreModel" "sizes" "[I") (by decide +kernel)) (fun _ h9 => h9) rfl dX4_copy_13 ?_
  refine lv_iload_n hx hb dX4_copy_16 rfl (lv_at hl 2 rfl) ?_
  refine lv_aload_n hx hb dX4_copy_17 rfl (lv_at hl 0 rfl) ?_
  refine va_get (D := G.1) (ci := 4) (v := .ref mz) (C := RX4) (T := TX4) (N := 7) hx hb hts hinX4 hown hK.1 hP 0 rfl rfl 3 (by decide) (hts (.fieldLink RX4 17 "ForkStoreModel" "sizes" "[I") (by decide +kernel)) (fun _ h9 => h9) rfl dX4_copy_18 ?_
  refine lv_iload_n hx hb dX4_copy_21 rfl (lv_at hl 1 rfl) ?_
  refine kz_iald hx hb hK.1 hP 3 0 rfl rfl (k := aa) (by omega) (by decide) dX4_copy_22 ?_
  refine kz_asi (y := nI (mZ aa)) rfl ?_
  refine kz_iast hx hb hK.1 hP hD hS 3 0 rfl rfl (k := bb) (by omega) (by decide) dX4_copy_23 (fun H locs hP hD hS => ?_)
  have hP : va_P G.1 vwCl [(mo, .inr (4, [.int tv, .ref mc, .ref mw, .ref mz, .ref mv, .ref mp, .ref mh])), (mc, .inl (gI G, 4, .inl (kz_z cs))), (mw, .inl (gJ G, 480, .inr (.inl (vp_updL mW bb (mW aa))))), (mz, .inl (gI G, 480, .inl (upd (kz_z mZ) bb (nI (mZ aa))))), (mv, .inl (gI G, 480, .inl mV)), (mp, .inl (gZ G, 3, .inl (kz_bo po))), (mh, .inl (gI G, 3, .inl (kz_pw pw)))] H := hP
  have hD : va_D A [(mo, .inr (4, [.int tv, .ref mc, .ref mw, .ref mz, .ref mv, .ref mp, .ref mh])), (mc, .inl (gI G, 4, .inl (kz_z cs))), (mw, .inl (gJ G, 480, .inr (.inl (vp_updL mW bb (mW aa))))), (mz, .inl (gI G, 480, .inl (upd (kz_z mZ) bb (nI (mZ aa))))), (mv, .inl (gI G, 480, .inl mV)), (mp, .inl (gZ G, 3, .inl (kz_bo po))), (mh, .inl (gI G, 3, .inl (kz_pw pw)))] := hD
  rw [show upd (kz_z mZ) bb (nI (mZ aa)) = kz_z (kz_un mZ bb (mZ aa)) from (kz_zu _ _ _).symm] at hP hD
  have hP : va_P G.1 vwCl [(mo, .inr (4, [.int tv, .ref mc, .ref mw, .ref mz, .ref mv, .ref mp, .ref mh])), (mc, .inl (gI G, 4, .inl (kz_z cs))), (mw, .inl (gJ G, 480, .inr (.inl (vp_updL mW bb (mW aa))))), (mz, .inl (gI G, 480, .inl (kz_z (kz_un mZ bb (mZ aa))))), (mv, .inl (gI G, 480, .inl mV)), (mp, .inl (gZ G, 3, .inl (kz_bo po))), (mh, .inl (gI G, 3, .inl (kz_pw pw)))] H := hP
  have hD : va_D A [(mo, .inr (4, [.int tv, .ref mc, .ref mw, .ref mz, .ref mv, .ref mp, .ref mh])), (mc, .inl (gI G, 4, .inl (kz_z cs))), (mw, .inl (gJ G, 480, .inr (.inl (vp_updL mW bb (mW aa))))), (mz, .inl (gI G, 480, .inl (kz_z (kz_un mZ bb (mZ aa))))), (mv, .inl (gI G, 480, .inl mV)), (mp, .inl (gZ G, 3, .inl (kz_bo po))), (mh, .inl (gI G, 3, .inl (kz_pw pw)))] := hD
  refine lv_aload_n hx hb dX4_copy_24 rfl (lv_at hl 0 rfl) ?_
  refine va_get (D := G.1) (ci := 4) (v := .ref mv) (C := RX4) (T := TX4) (N := 7) hx hb hts hinX4 hown hK.1 hP 0 rfl rfl 4 (by decide) (hts (.fieldLink RX4 20 "ForkStoreModel" "values" "[I") (by decide +kernel)) (fun _ h9 => h9) rfl dX4_copy_25 ?_
  refine lv_iload_n hx hb dX4_copy_28 rfl (lv_at hl 2 rfl) ?_
  refine lv_aload_n hx hb dX4_copy_29 rfl (lv_at hl 0 rfl) ?_
  refine va_get (D := G.1) (ci := 4) (v := .ref mv) (C := RX4) (T := TX4) (N := 7) hx hb hts hinX4 hown hK.1 hP 0 rfl rfl 4 (by decide) (hts (.fieldLink RX4 20 "ForkStoreModel" "values" "[I") (by decide +kernel)) (fun _ h9 => h9) rfl dX4_copy_30 ?_
  refine lv_iload_n hx hb dX4_copy_33 rfl (lv_at hl 1 rfl) ?_
  refine kz_iald hx hb hK.1 hP 4 0 rfl rfl (k := aa) (by omega) (by decide) dX4_copy_34 ?_
  refine kz_iast hx hb hK.1 hP hD hS 4 0 rfl rfl (k := bb) (by omega) (by decide) dX4_copy_35 (fun H locs hP hD hS => ?_)
  have hP : va_P G.1 vwCl [(mo, .inr (4, [.int tv, .ref mc, .ref mw, .ref mz, .ref mv, .ref mp, .ref mh])), (mc, .inl (gI G, 4, .inl (kz_z cs))), (mw, .inl (gJ G, 480, .inr (.inl (vp_updL mW bb (mW aa))))), (mz, .inl (gI G, 480, .inl (kz_z (kz_un mZ bb (mZ aa))))), (mv, .inl (gI G, 480, .inl (upd mV bb (mV aa)))), (mp, .inl (gZ G, 3, .inl (kz_bo po))), (mh, .inl (gI G, 3, .inl (kz_pw pw)))] H := hP
  have hD : va_D A [(mo, .inr (4, [.int tv, .ref mc, .ref mw, .ref mz, .ref mv, .ref mp, .ref mh])), (mc, .inl (gI G, 4, .inl (kz_z cs))), (mw, .inl (gJ G, 480, .inr (.inl (vp_updL mW bb (mW aa))))), (mz, .inl (gI G, 480, .inl (kz_z (kz_un mZ bb (mZ aa))))), (mv, .inl (gI G, 480, .inl (upd mV bb (mV aa)))), (mp, .inl (gZ G, 3, .inl (kz_bo po))), (mh, .inl (gI G, 3, .inl (kz_pw pw)))] := hD
  exact W.vret hx hb hr (fun t ht hW => ⟨⟨([(mo, .inr (4, [.int tv, .ref mc, .ref mw, .ref mz, .ref mv, .ref mp, .ref mh])), (mc, .inl (gI G, 4, .inl (kz_z cs))), (mw, .inl (gJ G, 480, .inr (.inl (vp_updL mW bb (mW aa))))), (mz, .inl (gI G, 480, .inl (kz_z (kz_un mZ bb (mZ aa))))), (mv, .inl (gI G, 480, .inl (upd mV bb (mV aa)))), (mp, .inl (gZ G, 3, .inl (kz_bo po))), (mh, .inl (gI G, 3, .inl (kz_pw pw)))] : va_W), rfl, rfl, by rw [← ht] at hP; exact hP⟩, hS.F ht⟩) hS.2.2 dX4_copy_36

set_option maxHeartbeats 4000000 in
set_option maxRecDepth 100000 in
theorem c_X4_isOpen (l : Launch) (G : kz_G) (mo mc mw mz mv mp mh : Nat) (tv : Int32) (cs : Nat → Nat) (mW : Nat → Int64) (mZ : Nat → Nat) (mV : Nat → Int32) (po : Nat → Bool) (pw : Nat → Nat) (rr : Int32) : Met l yX4_isOpen wsX4_isOpen { frames := 0, cells := 0, slots := 0, locals := 0 } (kz_Pp G [.ref mo, .int rr] [(mo, .inr (4, [.int tv, .ref mc, .ref mw, .ref mz, .ref mv, .ref mp, .ref mh])), (mc, .inl (gI G, 4, .inl (kz_z cs))), (mw, .inl (gJ G, 480, .inr (.inl mW))), (mz, .inl (gI G, 480, .inl (kz_z mZ))), (mv, .inl (gI G, 480, .inl mV)), (mp, .inl (gZ G, 3, .inl (kz_bo po))), (mh, .inl (gI G, 3, .inl (kz_pw pw)))]) (vp_Si (fun r => r = kf_b (kf_mop po rr))) 0 0 (fun _ => False) := by
  refine Met.ofW (cc := cX4_isOpen) (maxL := 2) (ret := (some .boolean)) (by decide) rfl ?_
  intro p e s m args below meth c s₁ B hml hv
  obtain ⟨rfl, hP, hK⟩ := hv
  have hx := B.exec
  have hb := B.bytes
  have hr := B.returns
  have hts := atoms_spec (ws := wsX4_isOpen) B.pre
  have hown : s.vm.findClass RX4 = some m.cls := findClass_of_methodNamed B.named
  have hlocks := B.notSynchronized
  have hinX4 : ∀ w ∈ wsX40, w ∈ wsX4_isOpen := by decide +kernel
  have hP : va_P G.1 vwCl [(mo, .inr (4, [.int tv, .ref mc, .ref mw, .ref mz, .ref mv, .ref mp, .ref mh])), (mc, .inl (gI G, 4, .inl (kz_z cs))), (mw, .inl (gJ G, 480, .inr (.inl mW))), (mz, .inl (gI G, 480, .inl (kz_z mZ))), (mv, .inl (gI G, 480, .inl mV)), (mp, .inl (gZ G, 3, .inl (kz_bo po))), (mh, .inl (gI G, 3, .inl (kz_pw pw)))] s.heap := hP
  have hl := lv_entry ([.ref mo, .int rr]) (n := 2) (Nat.le_of_ble_eq_true rfl)
  rw [lg_entry_eq]
  generalize (lg_sl ([.ref mo, .int rr]) ++ List.replicate (2 - (lg_sl ([.ref mo, .int rr])).length) Slot.unset).toArray = ls at hl ⊢
  have hl : lv_has ls 2 [(0, .ref mo), (1, .int rr)] := hl
  refine lv_iload_n hx hb dX4_isOpen_0 rfl (lv_at hl 1 rfl) ?_
  refine lv_if_lt (tgt := 22) hx hb dX4_isOpen_1 (by decide) (fun c_1 => ?_) (fun c_1 => ?_)
  · refine lv_iconst (v := 0) hx hb dX4_isOpen_22 (by decide) ?_
    exact W.zret (v := 0) hx hb hr rfl (fun t ht hW => ⟨_, rfl, (by unfold kf_mop; rw [if_neg (fun h => absurd c_1 (Int32.not_lt.mpr h.1))]; rfl), ht⟩) (fun _ h => nomatch h) dX4_isOpen_23
  · refine lv_iload_n hx hb dX4_isOpen_4 rfl (lv_at hl 1 rfl) ?_
    refine lv_iconst (v := 3) hx hb dX4_isOpen_5 (by decide) ?_
    refine lv_icmp_ge (tgt := 22) hx hb dX4_isOpen_6 (by decide) (fun c_2 => ?_) (fun c_2 => ?_)
    · refine lv_iconst (v := 0) hx hb dX4_isOpen_22 (by decide) ?_
      exact W.zret (v := 0) hx hb hr rfl (fun t ht hW => ⟨_, rfl, (by unfold kf_mop; rw [if_neg (fun h => absurd h.2 (Int32.not_lt.mpr c_2))]; rfl), ht⟩) (fun _ h => nomatch h) dX4_isOpen_23
    · obtain ⟨jj, hjj, rfl⟩ := kf_pl (nn := 3) (by decide) ⟨Int32.not_lt.mp c_1, Int32.not_le.mp c_2⟩
      refine lv_aload_n hx hb dX4_isOpen_9 rfl (lv_at hl 0 rfl) ?_
      refine va_get (D := G.1) (ci := 4) (v := .ref mp) (C := RX4) (T := TX4) (N := 7) hx hb hts hinX4 hown hK.1 hP 0 rfl rfl 5 (by decide) (hts (.fieldLink RX4 23 "ForkStoreModel" "open" "[Z") (by decide +kernel)) (fun _ h9 => h9) rfl dX4_isOpen_10 ?_
      refine lv_iload_n hx hb dX4_isOpen_13 rfl (lv_at hl 1 rfl) ?_
      refine kz_zald hx hb hK.1 hP 5 2 rfl rfl (k := jj) (by omega) (by decide) dX4_isOpen_14 ?_
      refine kz_asi (y := kf_b (po jj)) rfl ?_
      refine lv_if_eq (tgt := 22) hx hb dX4_isOpen_15 (by decide) (fun c_3 => ?_) (fun c_3 => ?_)
      · have kc_3 : po jj = false := kf_b_0.mp c_3
        refine lv_iconst (v := 0) hx hb dX4_isOpen_22 (by decide) ?_
        exact W.zret (v := 0) hx hb hr rfl (fun t ht hW => ⟨_, rfl, (by rw [kf_mop_n hjj, kc_3]; rfl), ht⟩) (fun _ h => nomatch h) dX4_isOpen_23
      · have kc_3 : po jj = true := by
          cases h9 : po jj
          · exact absurd (by rw [h9]; rfl) c_3
          · rfl
        refine lv_iconst (v := 1) hx hb dX4_isOpen_18 (by decide) ?_
        refine lv_goto (tgt := 23) hx hb dX4_isOpen_19 (by decide) ?_
        exact W.zret (v := 1) hx hb hr rfl (fun t ht hW => ⟨_, rfl, (by rw [kf_mop_n hjj, kc_3]; rfl), ht⟩) (fun _ h => nomatch h) dX4_isOpen_23
end
section
theorem kf_row_0 {α : Type} (f : Nat → α) : kf_row f 0 = f := by
  funext j
  unfold kf_row
  rw [Nat.mul_zero, Nat.zero_add]
theorem kf_okc (nv : Int32) : (∃ zz : Nat, zz ≤ 8 ∧ nv = nI zz) ∨ ¬ (0 ≤ nv ∧ nv ≤ 8) := by
  rcases Decidable.em (0 ≤ nv ∧ nv ≤ 8) with h | h
  · exact Or.inl (kf_ok_nat h)
  · exact Or.inr h
theorem kf_up_N (f : Nat → Nat) {i n : Nat} (h0 : 0 < i) (hi : i ≤ n) : kf_up f (i - 1) n = kz_un (kf_up f i n) i (kf_up f i n (i - 1)) := by
  funext j
  unfold kz_un kf_up
  by_cases h : j = i
  · subst h
    rw [if_pos (by omega), if_pos rfl, if_neg (by omega)]
  · rw [if_neg h]
    by_cases h2 : i < j ∧ j ≤ n
    · rw [if_pos (by omega), if_pos h2]
    · rw [if_neg (by omega), if_neg h2]
theorem kf_dn_N (f : Nat → Nat) {k i : Nat} (h : k ≤ i) : kf_dn f k (i + 1) = kz_un (kf_dn f k i) i (kf_dn f k i (i + 1)) := by
  funext j
  unfold kz_un kf_dn
  by_cases hj : j = i
  · subst hj
    rw [if_pos (by omega), if_pos rfl, if_neg (by omega)]
  · rw [if_neg hj]
    by_cases h2 : k ≤ j ∧ j < i
    · rw [if_pos (by omega), if_pos h2]
    · rw [if_neg (by omega), if_neg h2]

set_option maxHeartbeats 4000000 in
set_option maxRecDepth 100000 in
theorem c_X4_place0 (l : Launch) (G : kz_G) (mo mc mw mz mv mp mh : Nat) (tv : Int32) (cs : Nat → Nat) (mW : Nat → Int64) (mZ : Nat → Nat) (mV : Nat → Int32) (po : Nat → Bool) (pw : Nat → Nat) (ww : Int64) (zz : Nat) (hcs : ∀ j, cs j ≤ 120) (hmz : ∀ j, mZ j ≤ 8) (hzz : zz ≤ 8) : Met l yX4_place wsX4_place { frames := 1, cells := 0, slots := 0, locals := 26 } (kz_Pp G [.ref mo, .int 0, .long ww, .int (nI zz)] [(mo, .inr (4, [.int tv, .ref mc, .ref mw, .ref mz, .ref mv, .ref mp, .ref mh])), (mc, .inl (gI G, 4, .inl (kz_z cs))), (mw, .inl (gJ G, 480, .inr (.inl mW))), (mz, .inl (gI G, 480, .inl (kz_z mZ))), (mv, .inl (gI G, 480, .inl mV)), (mp, .inl (gZ G, 3, .inl (kz_bo po))), (mh, .inl (gI G, 3, .inl (kz_pw pw)))]) (vp_Si (fun r => r = nI (kf_cb mW mZ ww zz (cs 0)))) 0 0 (fun _ => False) := by
  have h := c_X4_place l G mo mc mw mz mv mp mh tv cs mW mZ mV po pw 0 ww zz hcs hmz (by omega) hzz
  rw [kf_row_0, kf_row_0, Nat.mul_zero, Nat.zero_add] at h
  exact h

set_option maxHeartbeats 4000000 in
set_option maxRecDepth 100000 in
theorem c_X4_has0 (l : Launch) (G : kz_G) (mo mc mw mz mv mp mh : Nat) (tv : Int32) (cs : Nat → Nat) (mW : Nat → Int64) (mZ : Nat → Nat) (mV : Nat → Int32) (po : Nat → Bool) (pw : Nat → Nat) (kk : Nat) (ww : Int64) (zz : Nat) (hcs : ∀ j, cs j ≤ 120) (hmz : ∀ j, mZ j ≤ 8) (hkk : kk ≤ 120) (hzz : zz ≤ 8) : Met l yX4_has wsX4_has { frames := 1, cells := 0, slots := 0, locals := 26 } (kz_Pp G [.ref mo, .int 0, .int (nI kk), .long ww, .int (nI zz)] [(mo, .inr (4, [.int tv, .ref mc, .ref mw, .ref mz, .ref mv, .ref mp, .ref mh])), (mc, .inl (gI G, 4, .inl (kz_z cs))), (mw, .inl (gJ G, 480, .inr (.inl mW))), (mz, .inl (gI G, 480, .inl (kz_z mZ))), (mv, .inl (gI G, 480, .inl mV)), (mp, .inl (gZ G, 3, .inl (kz_bo po))), (mh, .inl (gI G, 3, .inl (kz_pw pw)))]) (vp_Si (fun r => r = if kk < cs 0 ∧ mW kk = ww ∧ mZ kk = zz then 1 else 0)) 0 0 (fun _ => False) := by
  have h := c_X4_has l G mo mc mw mz mv mp mh tv cs mW mZ mV po pw 0 kk ww zz hcs hmz (by omega) hkk hzz
  rw [kf_row_0, kf_row_0, Nat.mul_zero, Nat.zero_add] at h
  exact h

set_option maxHeartbeats 4000000 in
set_option maxRecDepth 100000 in
theorem c_X4_size (l : Launch) (G : kz_G) (mo mc mw mz mv mp mh : Nat) (tv : Int32) (cs : Nat → Nat) (mW : Nat → Int64) (mZ : Nat → Nat) (mV : Nat → Int32) (po : Nat → Bool) (pw : Nat → Nat) (sz : Nat) : Met l yX4_size wsX4_size { frames := 0, cells := 0, slots := 0, locals := 0 } (kz_Pm G [.ref mo] [(mo, .inr (4, [.int tv, .ref mc, .ref mw, .ref mz, .ref mv, .ref mp, .ref mh])), (mc, .inl (gI G, 4, .inl (kz_z cs))), (mw, .inl (gJ G, 480, .inr (.inl mW))), (mz, .inl (gI G, 480, .inl (kz_z mZ))), (mv, .inl (gI G, 480, .inl mV)), (mp, .inl (gZ G, 3, .inl (kz_bo po))), (mh, .inl (gI G, 3, .inl (kz_pw pw)))] sz) (kz_Qi G (fun r w => r = nI (cs 0) ∧ w = [(mo, .inr (4, [.int 0, .ref mc, .ref mw, .ref mz, .ref mv, .ref mp, .ref mh])), (mc, .inl (gI G, 4, .inl (kz_z cs))), (mw, .inl (gJ G, 480, .inr (.inl mW))), (mz, .inl (gI G, 480, .inl (kz_z mZ))), (mv, .inl (gI G, 480, .inl mV)), (mp, .inl (gZ G, 3, .inl (kz_bo po))), (mh, .inl (gI G, 3, .inl (kz_pw pw)))]) (va_A [(mo, .inr (4, [.int tv, .ref mc, .ref mw, .ref mz, .ref mv, .ref mp, .ref mh])), (mc, .inl (gI G, 4, .inl (kz_z cs))), (mw, .inl (gJ G, 480, .inr (.inl mW))), (mz, .inl (gI G, 480, .inl (kz_z mZ))), (mv, .inl (gI G, 480, .inl mV)), (mp, .inl (gZ G, 3, .inl (kz_bo po))), (mh, .inl (gI G, 3, .inl (kz_pw pw)))] sz)) 0 0 (va_A [(mo, .inr (4, [.int tv, .ref mc, .ref mw, .ref mz, .ref mv, .ref mp, .ref mh])), (mc, .inl (gI G, 4, .inl (kz_z cs))), (mw, .inl (gJ G, 480, .inr (.inl mW))), (mz, .inl (gI G, 480, .inl (kz_z mZ))), (mv, .inl (gI G, 480, .inl mV)), (mp, .inl (gZ G, 3, .inl (kz_bo po))), (mh, .inl (gI G, 3, .inl (kz_pw pw)))] sz) := by
  refine Met.ofW (cc := cX4_size) (maxL := 1) (ret := (some .int)) (by decide) rfl ?_
  intro p e s m args below meth c s₁ B hml hv
  obtain ⟨rfl, hsz, hP, hK, hD0⟩ := hv
  have hx := B.exec
  have hb := B.bytes
  have hr := B.returns
  have hts := atoms_spec (ws := wsX4_size) B.pre
  have hown : s.vm.findClass RX4 = some m.cls := findClass_of_methodNamed B.named
  have hlocks := B.notSynchronized
  have hinX4 : ∀ w ∈ wsX40, w ∈ wsX4_size := by decide +kernel
  subst hsz
  have hD := hD0.self (sz := s.heap.size)
  generalize hAe : va_A [(mo, .inr (4, [.int tv, .ref mc, .ref mw, .ref mz, .ref mv, .ref mp, .ref mh])), (mc, .inl (gI G, 4, .inl (kz_z cs))), (mw, .inl (gJ G, 480, .inr (.inl mW))), (mz, .inl (gI G, 480, .inl (kz_z mZ))), (mv, .inl (gI G, 480, .inl mV)), (mp, .inl (gZ G, 3, .inl (kz_bo po))), (mh, .inl (gI G, 3, .inl (kz_pw pw)))] s.heap.size = A at hD ⊢
  have hA : ∀ q : Nat, s.heap.size ≤ q → A q := fun q h => by rw [← hAe]; exact Or.inr h
  have hS : va_S A s.heap s.heap [] := va_S.rf
  have hP : va_P G.1 vwCl [(mo, .inr (4, [.int tv, .ref mc, .ref mw, .ref mz, .ref mv, .ref mp, .ref mh])), (mc, .inl (gI G, 4, .inl (kz_z cs))), (mw, .inl (gJ G, 480, .inr (.inl mW))), (mz, .inl (gI G, 480, .inl (kz_z mZ))), (mv, .inl (gI G, 480, .inl mV)), (mp, .inl (gZ G, 3, .inl (kz_bo po))), (mh, .inl (gI G, 3, .inl (kz_pw pw)))] s.heap := hP
  have hl := lv_entry ([.ref mo]) (n := 1) (Nat.le_of_ble_eq_true rfl)
  rw [lg_entry_eq]
  generalize (lg_sl ([.ref mo]) ++ List.replicate (1 - (lg_sl ([.ref mo])).length) Slot.unset).toArray = ls at hl ⊢
  have hl : lv_has ls 1 [(0, .ref mo)] := hl
  refine lv_aload_n hx hb dX4_size_0 rfl (lv_at hl 0 rfl) ?_
  refine lv_iconst (v := 0) hx hb dX4_size_1 (by decide) ?_
  refine va_put (D := G.1) (ci := 4) (v := .int 0) (ty := .int) (C := RX4) (T := TX4) (N := 7) hx hb hts hinX4 tyX4 tyX4_ok nmX4 hown hK.1 hP hD hS 0 rfl rfl 0 (by decide) (hts (.fieldLink RX4 30 "ForkStoreModel" "thrown" "I") (by decide +kernel)) (fun _ h9 => h9) rfl (by decide +kernel) rfl rfl (Nat.le_of_ble_eq_true rfl) dX4_size_2 (fun H locs hP hD hS => ?_)
  have hP : va_P G.1 vwCl [(mo, .inr (4, [.int 0, .ref mc, .ref mw, .ref mz, .ref mv, .ref mp, .ref mh])), (mc, .inl (gI G, 4, .inl (kz_z cs))), (mw, .inl (gJ G, 480, .inr (.inl mW))), (mz, .inl (gI G, 480, .inl (kz_z mZ))), (mv, .inl (gI G, 480, .inl mV)), (mp, .inl (gZ G, 3, .inl (kz_bo po))), (mh, .inl (gI G, 3, .inl (kz_pw pw)))] H := hP
  have hD : va_D A [(mo, .inr (4, [.int 0, .ref mc, .ref mw, .ref mz, .ref mv, .ref mp, .ref mh])), (mc, .inl (gI G, 4, .inl (kz_z cs))), (mw, .inl (gJ G, 480, .inr (.inl mW))), (mz, .inl (gI G, 480, .inl (kz_z mZ))), (mv, .inl (gI G, 480, .inl mV)), (mp, .inl (gZ G, 3, .inl (kz_bo po))), (mh, .inl (gI G, 3, .inl (kz_pw pw)))] := hD
  refine lv_aload_n hx hb dX4_size_5 rfl (lv_at hl 0 rfl) ?_
  refine va_get (D := G.1) (ci := 4) (v := .ref mc) (C := RX4) (T := TX4) (N := 7) hx hb hts hinX4 hown hK.1 hP 0 rfl rfl 1 (by decide) (hts (.fieldLink RX4 7 "ForkStoreModel" "counts" "[I") (by decide +kernel)) (fun _ h9 => h9) rfl dX4_size_6 ?_
  refine lv_iconst (v := 0) hx hb dX4_size_9 (by decide) ?_
  refine kz_iald hx hb hK.1 hP 1 0 rfl rfl (k := 0) (by decide) (by decide) dX4_size_10 ?_
  refine kz_asi (y := nI (cs 0)) rfl ?_
  exact W.iret (v := nI (cs 0)) hx hb hr (fun t ht hW => ⟨⟨_, ([(mo, .inr (4, [.int 0, .ref mc, .ref mw, .ref mz, .ref mv, .ref mp, .ref mh])), (mc, .inl (gI G, 4, .inl (kz_z cs))), (mw, .inl (gJ G, 480, .inr (.inl mW))), (mz, .inl (gI G, 480, .inl (kz_z mZ))), (mv, .inl (gI G, 480, .inl mV)), (mp, .inl (gZ G, 3, .inl (kz_bo po))), (mh, .inl (gI G, 3, .inl (kz_pw pw)))] : va_W), rfl, ⟨rfl, rfl⟩, by rw [← ht] at hP; exact hP⟩, hS.F ht⟩) hS.2.2 dX4_size_11

set_option maxHeartbeats 4000000 in
set_option maxRecDepth 100000 in
theorem c_X4_rank (l : Launch) (G : kz_G) (mo mc mw mz mv mp mh : Nat) (tv : Int32) (cs : Nat → Nat) (mW : Nat → Int64) (mZ : Nat → Nat) (mV : Nat → Int32) (po : Nat → Bool) (pw : Nat → Nat) (ww : Int64) (nv : Int32) (sz : Nat) (hcs : ∀ j, cs j ≤ 120) (hmz : ∀ j, mZ j ≤ 8) : Met l yX4_rank wsX4_rank { frames := 2, cells := 0, slots := 0, locals := 51 } (kz_Pm G [.ref mo, .long ww, .int nv] [(mo, .inr (4, [.int tv, .ref mc, .ref mw, .ref mz, .ref mv, .ref mp, .ref mh])), (mc, .inl (gI G, 4, .inl (kz_z cs))), (mw, .inl (gJ G, 480, .inr (.inl mW))), (mz, .inl (gI G, 480, .inl (kz_z mZ))), (mv, .inl (gI G, 480, .inl mV)), (mp, .inl (gZ G, 3, .inl (kz_bo po))), (mh, .inl (gI G, 3, .inl (kz_pw pw)))] sz) (kz_Qi G (fun r w => (¬ (0 ≤ nv ∧ nv ≤ 8) ∧ r = -1 ∧ w = [(mo, .inr (4, [.int 0, .ref mc, .ref mw, .ref mz, .ref mv, .ref mp, .ref mh])), (mc, .inl (gI G, 4, .inl (kz_z cs))), (mw, .inl (gJ G, 480, .inr (.inl mW))), (mz, .inl (gI G, 480, .inl (kz_z mZ))), (mv, .inl (gI G, 480, .inl mV)), (mp, .inl (gZ G, 3, .inl (kz_bo po))), (mh, .inl (gI G, 3, .inl (kz_pw pw)))]) ∨ (∃ zz : Nat, zz ≤ 8 ∧ nv = nI zz ∧ r = nI (kf_cb mW mZ (kf_cut ww zz) zz (cs 0)) ∧ w = [(mo, .inr (4, [.int 0, .ref mc, .ref mw, .ref mz, .ref mv, .ref mp, .ref mh])), (mc, .inl (gI G, 4, .inl (kz_z cs))), (mw, .inl (gJ G, 480, .inr (.inl mW))), (mz, .inl (gI G, 480, .inl (kz_z mZ))), (mv, .inl (gI G, 480, .inl mV)), (mp, .inl (gZ G, 3, .inl (kz_bo po))), (mh, .inl (gI G, 3, .inl (kz_pw pw)))])) (va_A [(mo, .inr (4, [.int tv, .ref mc, .ref mw, .ref mz, .ref mv, .ref mp, .ref mh])), (mc, .inl (gI G, 4, .inl (kz_z cs))), (mw, .inl (gJ G, 480, .inr (.inl mW))), (mz, .inl (gI G, 480, .inl (kz_z mZ))), (mv, .inl (gI G, 480, .inl mV)), (mp, .inl (gZ G, 3, .inl (kz_bo po))), (mh, .inl (gI G, 3, .inl (kz_pw pw)))] sz)) 0 0 (va_A [(mo, .inr (4, [.int tv, .ref mc, .ref mw, .ref mz, .ref mv, .ref mp, .ref mh])), (mc, .inl (gI G, 4, .inl (kz_z cs))), (mw, .inl (gJ G, 480, .inr (.inl mW))), (mz, .inl (gI G, 480, .inl (kz_z mZ))), (mv, .inl (gI G, 480, .inl mV)), (mp, .inl (gZ G, 3, .inl (kz_bo po))), (mh, .inl (gI G, 3, .inl (kz_pw pw)))] sz) := by
  refine Met.ofW (cc := cX4_rank) (maxL := 4) (ret := (some .int)) (by decide) rfl ?_
  intro p e s m args below meth c s₁ B hml hv
  obtain ⟨rfl, hsz, hP, hK, hD0⟩ := hv
  have hx := B.exec
  have hb := B.bytes
  have hr := B.returns
  have hts := atoms_spec (ws := wsX4_rank) B.pre
  have hown : s.vm.findClass RX4 = some m.cls := findClass_of_methodNamed B.named
  have hlocks := B.notSynchronized
  have hinX4 : ∀ w ∈ wsX40, w ∈ wsX4_rank := by decide +kernel
  subst hsz
  have hD := hD0.self (sz := s.heap.size)
  generalize hAe : va_A [(mo, .inr (4, [.int tv, .ref mc, .ref mw, .ref mz, .ref mv, .ref mp, .ref mh])), (mc, .inl (gI G, 4, .inl (kz_z cs))), (mw, .inl (gJ G, 480, .inr (.inl mW))), (mz, .inl (gI G, 480, .inl (kz_z mZ))), (mv, .inl (gI G, 480, .inl mV)), (mp, .inl (gZ G, 3, .inl (kz_bo po))), (mh, .inl (gI G, 3, .inl (kz_pw pw)))] s.heap.size = A at hD ⊢
  have hA : ∀ q : Nat, s.heap.size ≤ q → A q := fun q h => by rw [← hAe]; exact Or.inr h
  have hS : va_S A s.heap s.heap [] := va_S.rf
  have hP : va_P G.1 vwCl [(mo, .inr (4, [.int tv, .ref mc, .ref mw, .ref mz, .ref mv, .ref mp, .ref mh])), (mc, .inl (gI G, 4, .inl (kz_z cs))), (mw, .inl (gJ G, 480, .inr (.inl mW))), (mz, .inl (gI G, 480, .inl (kz_z mZ))), (mv, .inl (gI G, 480, .inl mV)), (mp, .inl (gZ G, 3, .inl (kz_bo po))), (mh, .inl (gI G, 3, .inl (kz_pw pw)))] s.heap := hP
  have hl := lv_entry ([.ref mo, .long ww, .int nv]) (n := 4) (Nat.le_of_ble_eq_true rfl)
  rw [lg_entry_eq]
  generalize (lg_sl ([.ref mo, .long ww, .int nv]) ++ List.replicate (4 - (lg_sl ([.ref mo, .long ww, .int nv])).length) Slot.unset).toArray = ls at hl ⊢
  have hl : lv_has ls 4 [(0, .ref mo), (1, .long ww), (3, .int nv)] := hl
  rcases kf_okc nv with ⟨zz, hzz, rfl⟩ | hno
  · have hl : lv_has ls 4 [(0, .ref mo), (1, .long ww), (3, .int (nI zz))] := hl
    refine lv_aload_n hx hb dX4_rank_0 rfl (lv_at hl 0 rfl) ?_
    refine lv_iconst (v := 0) hx hb dX4_rank_1 (by decide) ?_
    refine va_put (D := G.1) (ci := 4) (v := .int 0) (ty := .int) (C := RX4) (T := TX4) (N := 7) hx hb hts hinX4 tyX4 tyX4_ok nmX4 hown hK.1 hP hD hS 0 rfl rfl 0 (by decide) (hts (.fieldLink RX4 30 "ForkStoreModel" "thrown" "I") (by decide +kernel)) (fun _ h9 => h9) rfl (by decide +kernel) rfl rfl (Nat.le_of_ble_eq_true rfl) dX4_rank_2 (fun H locs hP hD hS => ?_)
    have hP : va_P G.1 vwCl [(mo, .inr (4, [.int 0, .ref mc, .ref mw, .ref mz, .ref mv, .ref mp, .ref mh])), (mc, .inl (gI G, 4, .inl (kz_z cs))), (mw, .inl (gJ G, 480, .inr (.inl mW))), (mz, .inl (gI G, 480, .inl (kz_z mZ))), (mv, .inl (gI G, 480, .inl mV)), (mp, .inl (gZ G, 3, .inl (kz_bo po))), (mh, .inl (gI G, 3, .inl (kz_pw pw)))] H := hP
    have hD : va_D A [(mo, .inr (4, [.int 0, .ref mc, .ref mw, .ref mz, .ref mv, .ref mp, .ref mh])), (mc, .inl (gI G, 4, .inl (kz_z cs))), (mw, .inl (gJ G, 480, .inr (.inl mW))), (mz, .inl (gI G, 480, .inl (kz_z mZ))), (mv, .inl (gI G, 480, .inl mV)), (mp, .inl (gZ G, 3, .inl (kz_bo po))), (mh, .inl (gI G, 3, .inl (kz_pw pw)))] := hD
    refine lv_iload_n hx hb dX4_rank_5 rfl (lv_at hl 2 rfl) ?_
    refine lv_if_lt (tgt := 15) hx hb dX4_rank_6 (by decide) (fun c_1 => ?_) (fun c_1 => ?_)
    · exact absurd c_1 (nI_pos (by omega))
    · refine lv_iload_n hx hb dX4_rank_9 rfl (lv_at hl 2 rfl) ?_
      refine lv_bipush (v := 8) hx hb dX4_rank_10 (by decide) ?_
      refine lv_icmp_le (tgt := 19) hx hb dX4_rank_12 (by decide) (fun c_2 => ?_) (fun c_2 => ?_)
      · refine lv_aload_n hx hb dX4_rank_19 rfl (lv_at hl 0 rfl) ?_
        refine lv_iconst (v := 0) hx hb dX4_rank_20 (by decide) ?_
        refine lv_lload_n hx hb dX4_rank_21 rfl (lv_at hl 1 rfl) ?_
        refine lv_iload_n hx hb dX4_rank_22 rfl (lv_at hl 2 rfl) ?_
        refine kz_cl (v := kf_cut ww zz) (va_runS (As := [.long ww, .int (nI zz)]) (rest := [.int 0, .ref mo]) ⟨hx, hb, hml, hown, hts⟩ (c_X4_cut l ww zz (by omega)) (va_cwS 2 hts gX4_rank_X4_cut rfl rfl rfl (by decide +kernel) ⟨Nat.le_of_ble_eq_true rfl, Nat.le_of_ble_eq_true rfl⟩) kz_ps0 rfl rfl hl.1 rfl (lv_room (Nat.le_of_ble_eq_true rfl)) dX4_rank_23 ⟨Nat.zero_le _, Nat.zero_le _⟩).run ?_
        refine lv_iload_n hx hb dX4_rank_26 rfl (lv_at hl 2 rfl) ?_
        have hPc := hP.sub (ws' := [(mo, .inr (4, [.int 0, .ref mc, .ref mw, .ref mz, .ref mv, .ref mp, .ref mh])), (mc, .inl (gI G, 4, .inl (kz_z cs))), (mw, .inl (gJ G, 480, .inr (.inl mW))), (mz, .inl (gI G, 480, .inl (kz_z mZ))), (mv, .inl (gI G, 480, .inl mV)), (mp, .inl (gZ G, 3, .inl (kz_bo po))), (mh, .inl (gI G, 3, .inl (kz_pw pw)))]) [0, 1, 2, 3, 4, 5, 6] rfl
        refine kz_ci (v := nI (kf_cb mW mZ (kf_cut ww zz) zz (cs 0))) (va_runV (As := [.int 0, .long (kf_cut ww zz), .int (nI zz)]) (rest := []) ⟨hx, hb, hml, hown, hts⟩ (c_X4_place0 l G mo mc mw mz mv mp mh 0 cs mW mZ mV po pw (kf_cut ww zz) zz hcs hmz (by omega)) (cwV 3 hts gX4_rank_X4_place rfl rfl rfl (by decide +kernel) ⟨Nat.le_of_ble_eq_true rfl, Nat.le_of_ble_eq_true rfl⟩) (kz_pv hK hPc (va_recv hK.1 hPc (ci := 4) (q0 := 0) rfl rfl)) rfl rfl hl.1 rfl (lv_room (Nat.le_of_ble_eq_true rfl)) dX4_rank_27 ⟨Nat.zero_le _, Nat.zero_le _⟩).run ?_
        exact W.iret (v := nI (kf_cb mW mZ (kf_cut ww zz) zz (cs 0))) hx hb hr (fun t ht hW => ⟨⟨_, ([(mo, .inr (4, [.int 0, .ref mc, .ref mw, .ref mz, .ref mv, .ref mp, .ref mh])), (mc, .inl (gI G, 4, .inl (kz_z cs))), (mw, .inl (gJ G, 480, .inr (.inl mW))), (mz, .inl (gI G, 480, .inl (kz_z mZ))), (mv, .inl (gI G, 480, .inl mV)), (mp, .inl (gZ G, 3, .inl (kz_bo po))), (mh, .inl (gI G, 3, .inl (kz_pw pw)))] : va_W), rfl, (Or.inr ⟨zz, hzz, rfl, rfl, rfl⟩), by rw [← ht] at hP; exact hP⟩, hS.F ht⟩) hS.2.2 dX4_rank_30
      · exact absurd (nI_le (b := 8) hzz (by decide)) c_2
  · have hno := hno
    refine lv_aload_n hx hb dX4_rank_0 rfl (lv_at hl 0 rfl) ?_
    refine lv_iconst (v := 0) hx hb dX4_rank_1 (by decide) ?_
    refine va_put (D := G.1) (ci := 4) (v := .int 0) (ty := .int) (C := RX4) (T := TX4) (N := 7) hx hb hts hinX4 tyX4 tyX4_ok nmX4 hown hK.1 hP hD hS 0 rfl rfl 0 (by decide) (hts (.fieldLink RX4 30 "ForkStoreModel" "thrown" "I") (by decide +kernel)) (fun _ h9 => h9) rfl (by decide +kernel) rfl rfl (Nat.le_of_ble_eq_true rfl) dX4_rank_2 (fun H locs hP hD hS => ?_)
    have hP : va_P G.1 vwCl [(mo, .inr (4, [.int 0, .ref mc, .ref mw, .ref mz, .ref mv, .ref mp, .ref mh])), (mc, .inl (gI G, 4, .inl (kz_z cs))), (mw, .inl (gJ G, 480, .inr (.inl mW))), (mz, .inl (gI G, 480, .inl (kz_z mZ))), (mv, .inl (gI G, 480, .inl mV)), (mp, .inl (gZ G, 3, .inl (kz_bo po))), (mh, .inl (gI G, 3, .inl (kz_pw pw)))] H := hP
    have hD : va_D A [(mo, .inr (4, [.int 0, .ref mc, .ref mw, .ref mz, .ref mv, .ref mp, .ref mh])), (mc, .inl (gI G, 4, .inl (kz_z cs))), (mw, .inl (gJ G, 480, .inr (.inl mW))), (mz, .inl (gI G, 480, .inl (kz_z mZ))), (mv, .inl (gI G, 480, .inl mV)), (mp, .inl (gZ G, 3, .inl (kz_bo po))), (mh, .inl (gI G, 3, .inl (kz_pw pw)))] := hD
    refine lv_iload_n hx hb dX4_rank_5 rfl (lv_at hl 2 rfl) ?_
    refine lv_if_lt (tgt := 15) hx hb dX4_rank_6 (by decide) (fun c_3 => ?_) (fun c_3 => ?_)
    · refine lv_iconst (v := (-1)) hx hb dX4_rank_15 (by decide) ?_
      refine lv_goto (tgt := 30) hx hb dX4_rank_16 (by decide) ?_
      exact W.iret (v := (-1)) hx hb hr (fun t ht hW => ⟨⟨_, ([(mo, .inr (4, [.int 0, .ref mc, .ref mw, .ref mz, .ref mv, .ref mp, .ref mh])), (mc, .inl (gI G, 4, .inl (kz_z cs))), (mw, .inl (gJ G, 480, .inr (.inl mW))), (mz, .inl (gI G, 480, .inl (kz_z mZ))), (mv, .inl (gI G, 480, .inl mV)), (mp, .inl (gZ G, 3, .inl (kz_bo po))), (mh, .inl (gI G, 3, .inl (kz_pw pw)))] : va_W), rfl, (Or.inl ⟨hno, rfl, rfl⟩), by rw [← ht] at hP; exact hP⟩, hS.F ht⟩) hS.2.2 dX4_rank_30
    · refine lv_iload_n hx hb dX4_rank_9 rfl (lv_at hl 2 rfl) ?_
      refine lv_bipush (v := 8) hx hb dX4_rank_10 (by decide) ?_
      refine lv_icmp_le (tgt := 19) hx hb dX4_rank_12 (by decide) (fun c_4 => ?_) (fun c_4 => ?_)
      · exact absurd ⟨Int32.not_lt.mp c_3, c_4⟩ hno
      · refine lv_iconst (v := (-1)) hx hb dX4_rank_15 (by decide) ?_
        refine lv_goto (tgt := 30) hx hb dX4_rank_16 (by decide) ?_
        exact W.iret (v := (-1)) hx hb hr (fun t ht hW => ⟨⟨_, ([(mo, .inr (4, [.int 0, .ref mc, .ref mw, .ref mz, .ref mv, .ref mp, .ref mh])), (mc, .inl (gI G, 4, .inl (kz_z cs))), (mw, .inl (gJ G, 480, .inr (.inl mW))), (mz, .inl (gI G, 480, .inl (kz_z mZ))), (mv, .inl (gI G, 480, .inl mV)), (mp, .inl (gZ G, 3, .inl (kz_bo po))), (mh, .inl (gI G, 3, .inl (kz_pw pw)))] : va_W), rfl, (Or.inl ⟨hno, rfl, rfl⟩), by rw [← ht] at hP; exact hP⟩, hS.F ht⟩) hS.2.2 dX4_rank_30

set_option maxHeartbeats 4000000 in
set_option maxRecDepth 100000 in
theorem c_X4_get (l : Launch) (G : kz_G) (mo mc mw mz mv mp mh : Nat) (tv : Int32) (cs : Nat → Nat) (mW : Nat → Int64) (mZ : Nat → Nat) (mV : Nat → Int32) (po : Nat → Bool) (pw : Nat → Nat) (ww : Int64) (nv : Int32) (sz : Nat) (hcs : ∀ j, cs j ≤ 120) (hmz : ∀ j, mZ j ≤ 8) : Met l yX4_get wsX4_get { frames := 2, cells := 0, slots := 0, locals := 51 } (kz_Pm G [.ref mo, .long ww, .int nv] [(mo, .inr (4, [.int tv, .ref mc, .ref mw, .ref mz, .ref mv, .ref mp, .ref mh])), (mc, .inl (gI G, 4, .inl (kz_z cs))), (mw, .inl (gJ G, 480, .inr (.inl mW))), (mz, .inl (gI G, 480, .inl (kz_z mZ))), (mv, .inl (gI G, 480, .inl mV)), (mp, .inl (gZ G, 3, .inl (kz_bo po))), (mh, .inl (gI G, 3, .inl (kz_pw pw)))] sz) (kz_Qi G (fun r w => (¬ (0 ≤ nv ∧ nv ≤ 8) ∧ r = 0 ∧ w = [(mo, .inr (4, [.int 1, .ref mc, .ref mw, .ref mz, .ref mv, .ref mp, .ref mh])), (mc, .inl (gI G, 4, .inl (kz_z cs))), (mw, .inl (gJ G, 480, .inr (.inl mW))), (mz, .inl (gI G, 480, .inl (kz_z mZ))), (mv, .inl (gI G, 480, .inl mV)), (mp, .inl (gZ G, 3, .inl (kz_bo po))), (mh, .inl (gI G, 3, .inl (kz_pw pw)))]) ∨ (∃ zz : Nat, zz ≤ 8 ∧ nv = nI zz ∧ kf_st mW mZ (kf_cut ww zz) zz (cs 0) ∧ r = mV (kf_cb mW mZ (kf_cut ww zz) zz (cs 0)) ∧ w = [(mo, .inr (4, [.int 0, .ref mc, .ref mw, .ref mz, .ref mv, .ref mp, .ref mh])), (mc, .inl (gI G, 4, .inl (kz_z cs))), (mw, .inl (gJ G, 480, .inr (.inl mW))), (mz, .inl (gI G, 480, .inl (kz_z mZ))), (mv, .inl (gI G, 480, .inl mV)), (mp, .inl (gZ G, 3, .inl (kz_bo po))), (mh, .inl (gI G, 3, .inl (kz_pw pw)))]) ∨ (∃ zz : Nat, zz ≤ 8 ∧ nv = nI zz ∧ ¬ kf_st mW mZ (kf_cut ww zz) zz (cs 0) ∧ r = 0 ∧ w = [(mo, .inr (4, [.int 2, .ref mc, .ref mw, .ref mz, .ref mv, .ref mp, .ref mh])), (mc, .inl (gI G, 4, .inl (kz_z cs))), (mw, .inl (gJ G, 480, .inr (.inl mW))), (mz, .inl (gI G, 480, .inl (kz_z mZ))), (mv, .inl (gI G, 480, .inl mV)), (mp, .inl (gZ G, 3, .inl (kz_bo po))), (mh, .inl (gI G, 3, .inl (kz_pw pw)))])) (va_A [(mo, .inr (4, [.int tv, .ref mc, .ref mw, .ref mz, .ref mv, .ref mp, .ref mh])), (mc, .inl (gI G, 4, .inl (kz_z cs))), (mw, .inl (gJ G, 480, .inr (.inl mW))), (mz, .inl (gI G, 480, .inl (kz_z mZ))), (mv, .inl (gI G, 480, .inl mV)), (mp, .inl (gZ G, 3, .inl (kz_bo po))), (mh, .inl (gI G, 3, .inl (kz_pw pw)))] sz)) 0 0 (va_A [(mo, .inr (4, [.int tv, .ref mc, .ref mw, .ref mz, .ref mv, .ref mp, .ref mh])), (mc, .inl (gI G, 4, .inl (kz_z cs))), (mw, .inl (gJ G, 480, .inr (.inl mW))), (mz, .inl (gI G, 480, .inl (kz_z mZ))), (mv, .inl (gI G, 480, .inl mV)), (mp, .inl (gZ G, 3, .inl (kz_bo po))), (mh, .inl (gI G, 3, .inl (kz_pw pw)))] sz) := by
  refine Met.ofW (cc := cX4_get) (maxL := 8) (ret := (some .int)) (by decide) rfl ?_
  intro p e s m args below meth c s₁ B hml hv
  obtain ⟨rfl, hsz, hP, hK, hD0⟩ := hv
  have hx := B.exec
  have hb := B.bytes
  have hr := B.returns
  have hts := atoms_spec (ws := wsX4_get) B.pre
  have hown : s.vm.findClass RX4 = some m.cls := findClass_of_methodNamed B.named
  have hlocks := B.notSynchronized
  have hinX4 : ∀ w ∈ wsX40, w ∈ wsX4_get := by decide +kernel
  subst hsz
  have hD := hD0.self (sz := s.heap.size)
  generalize hAe : va_A [(mo, .inr (4, [.int tv, .ref mc, .ref mw, .ref mz, .ref mv, .ref mp, .ref mh])), (mc, .inl (gI G, 4, .inl (kz_z cs))), (mw, .inl (gJ G, 480, .inr (.inl mW))), (mz, .inl (gI G, 480, .inl (kz_z mZ))), (mv, .inl (gI G, 480, .inl mV)), (mp, .inl (gZ G, 3, .inl (kz_bo po))), (mh, .inl (gI G, 3, .inl (kz_pw pw)))] s.heap.size = A at hD ⊢
  have hA : ∀ q : Nat, s.heap.size ≤ q → A q := fun q h => by rw [← hAe]; exact Or.inr h
  have hS : va_S A s.heap s.heap [] := va_S.rf
  have hP : va_P G.1 vwCl [(mo, .inr (4, [.int tv, .ref mc, .ref mw, .ref mz, .ref mv, .ref mp, .ref mh])), (mc, .inl (gI G, 4, .inl (kz_z cs))), (mw, .inl (gJ G, 480, .inr (.inl mW))), (mz, .inl (gI G, 480, .inl (kz_z mZ))), (mv, .inl (gI G, 480, .inl mV)), (mp, .inl (gZ G, 3, .inl (kz_bo po))), (mh, .inl (gI G, 3, .inl (kz_pw pw)))] s.heap := hP
  have hl := lv_entry ([.ref mo, .long ww, .int nv]) (n := 8) (Nat.le_of_ble_eq_true rfl)
  rw [lg_entry_eq]
  generalize (lg_sl ([.ref mo, .long ww, .int nv]) ++ List.replicate (8 - (lg_sl ([.ref mo, .long ww, .int nv])).length) Slot.unset).toArray = ls at hl ⊢
  have hl : lv_has ls 8 [(0, .ref mo), (1, .long ww), (3, .int nv)] := hl
  rcases kf_okc nv with ⟨zz, hzz, rfl⟩ | hno
  · have hl : lv_has ls 8 [(0, .ref mo), (1, .long ww), (3, .int (nI zz))] := hl
    refine lv_iload_n hx hb dX4_get_0 rfl (lv_at hl 2 rfl) ?_
    refine lv_if_lt (tgt := 14) hx hb dX4_get_1 (by decide) (fun c_1 => ?_) (fun c_1 => ?_)
    · exact absurd c_1 (nI_pos (by omega))
    · refine lv_iload_n hx hb dX4_get_4 rfl (lv_at hl 2 rfl) ?_
      refine lv_bipush (v := 8) hx hb dX4_get_5 (by decide) ?_
      refine lv_icmp_gt (tgt := 14) hx hb dX4_get_7 (by decide) (fun c_2 => ?_) (fun c_2 => ?_)
      · exact absurd c_2 (Int32.not_lt.mpr (nI_le (b := 8) hzz (by decide)))
      · refine lv_iconst (v := 1) hx hb dX4_get_10 (by decide) ?_
        refine lv_goto (tgt := 15) hx hb dX4_get_11 (by decide) ?_
        refine lv_istore (lv' := [(4, .int 1), (0, .ref mo), (1, .long ww), (3, .int (nI zz))]) hx hb dX4_get_15 hl (by decide) rfl (fun ls hl => ?_)
        refine lv_iload hx hb dX4_get_17 (lv_at hl 0 rfl) ?_
        refine lv_if_eq (tgt := 30) hx hb dX4_get_19 (by decide) (fun c_3 => ?_) (fun c_3 => ?_)
        · exact absurd c_3 (by decide)
        · refine lv_lload_n hx hb dX4_get_22 rfl (lv_at hl 2 rfl) ?_
          refine lv_iload_n hx hb dX4_get_23 rfl (lv_at hl 3 rfl) ?_
          refine kz_cl (v := kf_cut ww zz) (va_runS (As := [.long ww, .int (nI zz)]) (rest := []) ⟨hx, hb, hml, hown, hts⟩ (c_X4_cut l ww zz (by omega)) (va_cwS 2 hts gX4_get_X4_cut rfl rfl rfl (by decide +kernel) ⟨Nat.le_of_ble_eq_true rfl, Nat.le_of_ble_eq_true rfl⟩) kz_ps0 rfl rfl hl.1 rfl (lv_room (Nat.le_of_ble_eq_true rfl)) dX4_get_24 ⟨Nat.zero_le _, Nat.zero_le _⟩).run ?_
          refine lv_goto (tgt := 31) hx hb dX4_get_27 (by decide) ?_
          refine lv_lstore (lv' := [(5, .long (kf_cut ww zz)), (4, .int 1), (0, .ref mo), (1, .long ww), (3, .int (nI zz))]) hx hb dX4_get_31 hl (by decide) rfl (fun ls hl => ?_)
          refine lv_iload hx hb dX4_get_33 (lv_at hl 1 rfl) ?_
          refine lv_if_eq (tgt := 49) hx hb dX4_get_35 (by decide) (fun c_4 => ?_) (fun c_4 => ?_)
          · exact absurd c_4 (by decide)
          · refine lv_aload_n hx hb dX4_get_38 rfl (lv_at hl 2 rfl) ?_
            refine lv_iconst (v := 0) hx hb dX4_get_39 (by decide) ?_
            refine lv_lload hx hb dX4_get_40 (lv_at hl 0 rfl) ?_
            refine lv_iload_n hx hb dX4_get_42 rfl (lv_at hl 4 rfl) ?_
            have hPc := hP.sub (ws' := [(mo, .inr (4, [.int tv, .ref mc, .ref mw, .ref mz, .ref mv, .ref mp, .ref mh])), (mc, .inl (gI G, 4, .inl (kz_z cs))), (mw, .inl (gJ G, 480, .inr (.inl mW))), (mz, .inl (gI G, 480, .inl (kz_z mZ))), (mv, .inl (gI G, 480, .inl mV)), (mp, .inl (gZ G, 3, .inl (kz_bo po))), (mh, .inl (gI G, 3, .inl (kz_pw pw)))]) [0, 1, 2, 3, 4, 5, 6] rfl
            refine kz_ci (v := nI (kf_cb mW mZ (kf_cut ww zz) zz (cs 0))) (va_runV (As := [.int 0, .long (kf_cut ww zz), .int (nI zz)]) (rest := []) ⟨hx, hb, hml, hown, hts⟩ (c_X4_place0 l G mo mc mw mz mv mp mh tv cs mW mZ mV po pw (kf_cut ww zz) zz hcs hmz (by omega)) (cwV 3 hts gX4_get_X4_place rfl rfl rfl (by decide +kernel) ⟨Nat.le_of_ble_eq_true rfl, Nat.le_of_ble_eq_true rfl⟩) (kz_pv hK hPc (va_recv hK.1 hPc (ci := 4) (q0 := 0) rfl rfl)) rfl rfl hl.1 rfl (lv_room (Nat.le_of_ble_eq_true rfl)) dX4_get_43 ⟨Nat.zero_le _, Nat.zero_le _⟩).run ?_
            refine lv_goto (tgt := 50) hx hb dX4_get_46 (by decide) ?_
            refine lv_istore (lv' := [(7, .int (nI (kf_cb mW mZ (kf_cut ww zz) zz (cs 0)))), (5, .long (kf_cut ww zz)), (4, .int 1), (0, .ref mo), (1, .long ww), (3, .int (nI zz))]) hx hb dX4_get_50 hl (by decide) rfl (fun ls hl => ?_)
            have hcb := kf_cb_le mW mZ (kf_cut ww zz) zz (cs 0)
            have hc0 := hcs 0
            refine lv_aload_n hx hb dX4_get_52 rfl (lv_at hl 3 rfl) ?_
            refine lv_iload hx hb dX4_get_53 (lv_at hl 2 rfl) ?_
            refine lv_if_ne (tgt := 62) hx hb dX4_get_55 (by decide) (fun c_5 => ?_) (fun c_5 => ?_)
            · refine lv_aload_n hx hb dX4_get_62 rfl (lv_at hl 3 rfl) ?_
              refine lv_iconst (v := 0) hx hb dX4_get_63 (by decide) ?_
              refine lv_iload hx hb dX4_get_64 (lv_at hl 0 rfl) ?_
              refine lv_lload hx hb dX4_get_66 (lv_at hl 1 rfl) ?_
              refine lv_iload_n hx hb dX4_get_68 rfl (lv_at hl 5 rfl) ?_
              have hPc := hP.sub (ws' := [(mo, .inr (4, [.int tv, .ref mc, .ref mw, .ref mz, .ref mv, .ref mp, .ref mh])), (mc, .inl (gI G, 4, .inl (kz_z cs))), (mw, .inl (gJ G, 480, .inr (.inl mW))), (mz, .inl (gI G, 480, .inl (kz_z mZ))), (mv, .inl (gI G, 480, .inl mV)), (mp, .inl (gZ G, 3, .inl (kz_bo po))), (mh, .inl (gI G, 3, .inl (kz_pw pw)))]) [0, 1, 2, 3, 4, 5, 6] rfl
              refine kz_ci (v := if (kf_cb mW mZ (kf_cut ww zz) zz (cs 0)) < cs 0 ∧ mW (kf_cb mW mZ (kf_cut ww zz) zz (cs 0)) = kf_cut ww zz ∧ mZ (kf_cb mW mZ (kf_cut ww zz) zz (cs 0)) = zz then 1 else 0) (va_runV (As := [.int 0, .int (nI (kf_cb mW mZ (kf_cut ww zz) zz (cs 0))), .long (kf_cut ww zz), .int (nI zz)]) (rest := [.ref mo]) ⟨hx, hb, hml, hown, hts⟩ (c_X4_has0 l G mo mc mw mz mv mp mh tv cs mW mZ mV po pw (kf_cb mW mZ (kf_cut ww zz) zz (cs 0)) (kf_cut ww zz) zz hcs hmz (by omega) (by omega)) (cwV 4 hts gX4_get_X4_has rfl rfl rfl (by decide +kernel) ⟨Nat.le_of_ble_eq_true rfl, Nat.le_of_ble_eq_true rfl⟩) (kz_pv hK hPc (va_recv hK.1 hPc (ci := 4) (q0 := 0) rfl rfl)) rfl rfl hl.1 rfl (lv_room (Nat.le_of_ble_eq_true rfl)) dX4_get_69 ⟨Nat.zero_le _, Nat.zero_le _⟩).run ?_
              refine lv_if_eq (tgt := 79) hx hb dX4_get_72 (by decide) (fun c_6 => ?_) (fun c_6 => ?_)
              · have kc_6 := kf_if0 c_6
                refine lv_iconst (v := 2) hx hb dX4_get_79 (by decide) ?_
                refine va_put (D := G.1) (ci := 4) (v := .int 2) (ty := .int) (C := RX4) (T := TX4) (N := 7) hx hb hts hinX4 tyX4 tyX4_ok nmX4 hown hK.1 hP hD hS 0 rfl rfl 0 (by decide) (hts (.fieldLink RX4 30 "ForkStoreModel" "thrown" "I") (by decide +kernel)) (fun _ h9 => h9) rfl (by decide +kernel) rfl rfl (Nat.le_of_ble_eq_true rfl) dX4_get_80 (fun H locs hP hD hS => ?_)
                have hP : va_P G.1 vwCl [(mo, .inr (4, [.int 2, .ref mc, .ref mw, .ref mz, .ref mv, .ref mp, .ref mh])), (mc, .inl (gI G, 4, .inl (kz_z cs))), (mw, .inl (gJ G, 480, .inr (.inl mW))), (mz, .inl (gI G, 480, .inl (kz_z mZ))), (mv, .inl (gI G, 480, .inl mV)), (mp, .inl (gZ G, 3, .inl (kz_bo po))), (mh, .inl (gI G, 3, .inl (kz_pw pw)))] H := hP
                have hD : va_D A [(mo, .inr (4, [.int 2, .ref mc, .ref mw, .ref mz, .ref mv, .ref mp, .ref mh])), (mc, .inl (gI G, 4, .inl (kz_z cs))), (mw, .inl (gJ G, 480, .inr (.inl mW))), (mz, .inl (gI G, 480, .inl (kz_z mZ))), (mv, .inl (gI G, 480, .inl mV)), (mp, .inl (gZ G, 3, .inl (kz_bo po))), (mh, .inl (gI G, 3, .inl (kz_pw pw)))] := hD
                refine lv_aload_n hx hb dX4_get_83 rfl (lv_at hl 3 rfl) ?_
                refine va_get (D := G.1) (ci := 4) (v := .int 2) (C := RX4) (T := TX4) (N := 7) hx hb hts hinX4 hown hK.1 hP 0 rfl rfl 0 (by decide) (hts (.fieldLink RX4 30 "ForkStoreModel" "thrown" "I") (by decide +kernel)) (fun _ h9 => h9) rfl dX4_get_84 ?_
                refine lv_if_le (tgt := 94) hx hb dX4_get_87 (by decide) (fun c_7 => ?_) (fun c_7 => ?_)
                · exact absurd c_7 (by decide)
                · refine lv_iconst (v := 0) hx hb dX4_get_90 (by decide) ?_
                  refine lv_goto (tgt := 101) hx hb dX4_get_91 (by decide) ?_
                  exact W.iret (v := 0) hx hb hr (fun t ht hW => ⟨⟨_, ([(mo, .inr (4, [.int 2, .ref mc, .ref mw, .ref mz, .ref mv, .ref mp, .ref mh])), (mc, .inl (gI G, 4, .inl (kz_z cs))), (mw, .inl (gJ G, 480, .inr (.inl mW))), (mz, .inl (gI G, 480, .inl (kz_z mZ))), (mv, .inl (gI G, 480, .inl mV)), (mp, .inl (gZ G, 3, .inl (kz_bo po))), (mh, .inl (gI G, 3, .inl (kz_pw pw)))] : va_W), rfl, (Or.inr (Or.inr ⟨zz, hzz, rfl, kc_6, rfl, rfl⟩)), by rw [← ht] at hP; exact hP⟩, hS.F ht⟩) hS.2.2 dX4_get_101
              · have kc_6 := kf_if1 c_6
                refine lv_iconst (v := 0) hx hb dX4_get_75 (by decide) ?_
                refine lv_goto (tgt := 80) hx hb dX4_get_76 (by decide) ?_
                refine va_put (D := G.1) (ci := 4) (v := .int 0) (ty := .int) (C := RX4) (T := TX4) (N := 7) hx hb hts hinX4 tyX4 tyX4_ok nmX4 hown hK.1 hP hD hS 0 rfl rfl 0 (by decide) (hts (.fieldLink RX4 30 "ForkStoreModel" "thrown" "I") (by decide +kernel)) (fun _ h9 => h9) rfl (by decide +kernel) rfl rfl (Nat.le_of_ble_eq_true rfl) dX4_get_80 (fun H locs hP hD hS => ?_)
                have hP : va_P G.1 vwCl [(mo, .inr (4, [.int 0, .ref mc, .ref mw, .ref mz, .ref mv, .ref mp, .ref mh])), (mc, .inl (gI G, 4, .inl (kz_z cs))), (mw, .inl (gJ G, 480, .inr (.inl mW))), (mz, .inl (gI G, 480, .inl (kz_z mZ))), (mv, .inl (gI G, 480, .inl mV)), (mp, .inl (gZ G, 3, .inl (kz_bo po))), (mh, .inl (gI G, 3, .inl (kz_pw pw)))] H := hP
                have hD : va_D A [(mo, .inr (4, [.int 0, .ref mc, .ref mw, .ref mz, .ref mv, .ref mp, .ref mh])), (mc, .inl (gI G, 4, .inl (kz_z cs))), (mw, .inl (gJ G, 480, .inr (.inl mW))), (mz, .inl (gI G, 480, .inl (kz_z mZ))), (mv, .inl (gI G, 480, .inl mV)), (mp, .inl (gZ G, 3, .inl (kz_bo po))), (mh, .inl (gI G, 3, .inl (kz_pw pw)))] := hD
                refine lv_aload_n hx hb dX4_get_83 rfl (lv_at hl 3 rfl) ?_
                refine va_get (D := G.1) (ci := 4) (v := .int 0) (C := RX4) (T := TX4) (N := 7) hx hb hts hinX4 hown hK.1 hP 0 rfl rfl 0 (by decide) (hts (.fieldLink RX4 30 "ForkStoreModel" "thrown" "I") (by decide +kernel)) (fun _ h9 => h9) rfl dX4_get_84 ?_
                refine lv_if_le (tgt := 94) hx hb dX4_get_87 (by decide) (fun c_8 => ?_) (fun c_8 => ?_)
                · refine lv_aload_n hx hb dX4_get_94 rfl (lv_at hl 3 rfl) ?_
                  refine va_get (D := G.1) (ci := 4) (v := .ref mv) (C := RX4) (T := TX4) (N := 7) hx hb hts hinX4 hown hK.1 hP 0 rfl rfl 4 (by decide) (hts (.fieldLink RX4 20 "ForkStoreModel" "values" "[I") (by decide +kernel)) (fun _ h9 => h9) rfl dX4_get_95 ?_
                  refine lv_iload hx hb dX4_get_98 (lv_at hl 0 rfl) ?_
                  refine kz_iald hx hb hK.1 hP 4 0 rfl rfl (k := (kf_cb mW mZ (kf_cut ww zz) zz (cs 0))) (by omega) (by decide) dX4_get_100 ?_
                  exact W.iret (v := mV (kf_cb mW mZ (kf_cut ww zz) zz (cs 0))) hx hb hr (fun t ht hW => ⟨⟨_, ([(mo, .inr (4, [.int 0, .ref mc, .ref mw, .ref mz, .ref mv, .ref mp, .ref mh])), (mc, .inl (gI G, 4, .inl (kz_z cs))), (mw, .inl (gJ G, 480, .inr (.inl mW))), (mz, .inl (gI G, 480, .inl (kz_z mZ))), (mv, .inl (gI G, 480, .inl mV)), (mp, .inl (gZ G, 3, .inl (kz_bo po))), (mh, .inl (gI G, 3, .inl (kz_pw pw)))] : va_W), rfl, (Or.inr (Or.inl ⟨zz, hzz, rfl, kc_6, rfl, rfl⟩)), by rw [← ht] at hP; exact hP⟩, hS.F ht⟩) hS.2.2 dX4_get_101
                · exact absurd c_8 (by decide)
            · exact absurd c_5 (by decide)
  · have hno := hno
    refine lv_iload_n hx hb dX4_get_0 rfl (lv_at hl 2 rfl) ?_
    refine lv_if_lt (tgt := 14) hx hb dX4_get_1 (by decide) (fun c_9 => ?_) (fun c_9 => ?_)
    · refine lv_iconst (v := 0) hx hb dX4_get_14 (by decide) ?_
      refine lv_istore (lv' := [(4, .int 0), (0, .ref mo), (1, .long ww), (3, .int nv)]) hx hb dX4_get_15 hl (by decide) rfl (fun ls hl => ?_)
      refine lv_iload hx hb dX4_get_17 (lv_at hl 0 rfl) ?_
      refine lv_if_eq (tgt := 30) hx hb dX4_get_19 (by decide) (fun c_10 => ?_) (fun c_10 => ?_)
      · refine lv_lconst (v := 0) hx hb dX4_get_30 (by decide) ?_
        refine lv_lstore (lv' := [(5, .long 0), (4, .int 0), (0, .ref mo), (1, .long ww), (3, .int nv)]) hx hb dX4_get_31 hl (by decide) rfl (fun ls hl => ?_)
        refine lv_iload hx hb dX4_get_33 (lv_at hl 1 rfl) ?_
        refine lv_if_eq (tgt := 49) hx hb dX4_get_35 (by decide) (fun c_11 => ?_) (fun c_11 => ?_)
        · refine lv_iconst (v := 0) hx hb dX4_get_49 (by decide) ?_
          refine lv_istore (lv' := [(7, .int 0), (5, .long 0), (4, .int 0), (0, .ref mo), (1, .long ww), (3, .int nv)]) hx hb dX4_get_50 hl (by decide) rfl (fun ls hl => ?_)
          refine lv_aload_n hx hb dX4_get_52 rfl (lv_at hl 3 rfl) ?_
          refine lv_iload hx hb dX4_get_53 (lv_at hl 2 rfl) ?_
          refine lv_if_ne (tgt := 62) hx hb dX4_get_55 (by decide) (fun c_12 => ?_) (fun c_12 => ?_)
          · exact absurd c_12 (by decide)
          · refine lv_iconst (v := 1) hx hb dX4_get_58 (by decide) ?_
            refine lv_goto (tgt := 80) hx hb dX4_get_59 (by decide) ?_
            refine va_put (D := G.1) (ci := 4) (v := .int 1) (ty := .int) (C := RX4) (T := TX4) (N := 7) hx hb hts hinX4 tyX4 tyX4_ok nmX4 hown hK.1 hP hD hS 0 rfl rfl 0 (by decide) (hts (.fieldLink RX4 30 "ForkStoreModel" "thrown" "I") (by decide +kernel)) (fun _ h9 => h9) rfl (by decide +kernel) rfl rfl (Nat.le_of_ble_eq_true rfl) dX4_get_80 (fun H locs hP hD hS => ?_)
            have hP : va_P G.1 vwCl [(mo, .inr (4, [.int 1, .ref mc, .ref mw, .ref mz, .ref mv, .ref mp, .ref mh])), (mc, .inl (gI G, 4, .inl (kz_z cs))), (mw, .inl (gJ G, 480, .inr (.inl mW))), (mz, .inl (gI G, 480, .inl (kz_z mZ))), (mv, .inl (gI G, 480, .inl mV)), (mp, .inl (gZ G, 3, .inl (kz_bo po))), (mh, .inl (gI G, 3, .inl (kz_pw pw)))] H := hP
            have hD : va_D A [(mo, .inr (4, [.int 1, .ref mc, .ref mw, .ref mz, .ref mv, .ref mp, .ref mh])), (mc, .inl (gI G, 4, .inl (kz_z cs))), (mw, .inl (gJ G, 480, .inr (.inl mW))), (mz, .inl (gI G, 480, .inl (kz_z mZ))), (mv, .inl (gI G, 480, .inl mV)), (mp, .inl (gZ G, 3, .inl (kz_bo po))), (mh, .inl (gI G, 3, .inl (kz_pw pw)))] := hD
            refine lv_aload_n hx hb dX4_get_83 rfl (lv_at hl 3 rfl) ?_
            refine va_get (D := G.1) (ci := 4) (v := .int 1) (C := RX4) (T := TX4) (N := 7) hx hb hts hinX4 hown hK.1 hP 0 rfl rfl 0 (by decide) (hts (.fieldLink RX4 30 "ForkStoreModel" "thrown" "I") (by decide +kernel)) (fun _ h9 => h9) rfl dX4_get_84 ?_
            refine lv_if_le (tgt := 94) hx hb dX4_get_87 (by decide) (fun c_13 => ?_) (fun c_13 => ?_)
            · exact absurd c_13 (by decide)
            · refine lv_iconst (v := 0) hx hb dX4_get_90 (by decide) ?_
              refine lv_goto (tgt := 101) hx hb dX4_get_91 (by decide) ?_
              exact W.iret (v := 0) hx hb hr (fun t ht hW => ⟨⟨_, ([(mo, .inr (4, [.int 1, .ref mc, .ref mw, .ref mz, .ref mv, .ref mp, .ref mh])), (mc, .inl (gI G, 4, .inl (kz_z cs))), (mw, .inl (gJ G, 480, .inr (.inl mW))), (mz, .inl (gI G, 480, .inl (kz_z mZ))), (mv, .inl (gI G, 480, .inl mV)), (mp, .inl (gZ G, 3, .inl (kz_bo po))), (mh, .inl (gI G, 3, .inl (kz_pw pw)))] : va_W), rfl, (Or.inl ⟨hno, rfl, rfl⟩), by rw [← ht] at hP; exact hP⟩, hS.F ht⟩) hS.2.2 dX4_get_101
        · exact absurd c_11 (by decide)
      · exact absurd c_10 (by decide)
    · refine lv_iload_n hx hb dX4_get_4 rfl (lv_at hl 2 rfl) ?_
      refine lv_bipush (v := 8) hx hb dX4_get_5 (by decide) ?_
      refine lv_icmp_gt (tgt := 14) hx hb dX4_get_7 (by decide) (fun c_14 => ?_) (fun c_14 => ?_)
      · refine lv_iconst (v := 0) hx hb dX4_get_14 (by decide) ?_
        refine lv_istore (lv' := [(4, .int 0), (0, .ref mo), (1, .long ww), (3, .int nv)]) hx hb dX4_get_15 hl (by decide) rfl (fun ls hl => ?_)
        refine lv_iload hx hb dX4_get_17 (lv_at hl 0 rfl) ?_
        refine lv_if_eq (tgt := 30) hx hb dX4_get_19 (by decide) (fun c_15 => ?_) (fun c_15 => ?_)
        · refine lv_lconst (v := 0) hx hb dX4_get_30 (by decide) ?_
          refine lv_lstore (lv' := [(5, .long 0), (4, .int 0), (0, .ref mo), (1, .long ww), (3, .int nv)]) hx hb dX4_get_31 hl (by decide) rfl (fun ls hl => ?_)
          refine lv_iload hx hb dX4_get_33 (lv_at hl 1 rfl) ?_
          refine lv_if_eq (tgt := 49) hx hb dX4_get_35 (by decide) (fun c_16 => ?_) (fun c_16 => ?_)
          · refine lv_iconst (v := 0) hx hb dX4_get_49 (by decide) ?_
            refine lv_istore (lv' := [(7, .int 0), (5, .long 0), (4, .int 0), (0, .ref mo), (1, .long ww), (3, .int nv)]) hx hb dX4_get_50 hl (by decide) rfl (fun ls hl => ?_)
            refine lv_aload_n hx hb dX4_get_52 rfl (lv_at hl 3 rfl) ?_
            refine lv_iload hx hb dX4_get_53 (lv_at hl 2 rfl) ?_
            refine lv_if_ne (tgt := 62) hx hb dX4_get_55 (by decide) (fun c_17 => ?_) (fun c_17 => ?_)
            · exact absurd c_17 (by decide)
            · refine lv_iconst (v := 1) hx hb dX4_get_58 (by decide) ?_
              refine lv_goto (tgt := 80) hx hb dX4_get_59 (by decide) ?_
              refine va_put (D := G.1) (ci := 4) (v := .int 1) (ty := .int) (C := RX4) (T := TX4) (N := 7) hx hb hts hinX4 tyX4 tyX4_ok nmX4 hown hK.1 hP hD hS 0 rfl rfl 0 (by decide) (hts (.fieldLink RX4 30 "ForkStoreModel" "thrown" "I") (by decide +kernel)) (fun _ h9 => h9) rfl (by decide +kernel) rfl rfl (Nat.le_of_ble_eq_true rfl) dX4_get_80 (fun H locs hP hD hS => ?_)
              have hP : va_P G.1 vwCl [(mo, .inr (4, [.int 1, .ref mc, .ref mw, .ref mz, .ref mv, .ref mp, .ref mh])), (mc, .inl (gI G, 4, .inl (kz_z cs))), (mw, .inl (gJ G, 480, .inr (.inl mW))), (mz, .inl (gI G, 480, .inl (kz_z mZ))), (mv, .inl (gI G, 480, .inl mV)), (mp, .inl (gZ G, 3, .inl (kz_bo po))), (mh, .inl (gI G, 3, .inl (kz_pw pw)))] H := hP
              have hD : va_D A [(mo, .inr (4, [.int 1, .ref mc, .ref mw, .ref mz, .ref mv, .ref mp, .ref mh])), (mc, .inl (gI G, 4, .inl (kz_z cs))), (mw, .inl (gJ G, 480, .inr (.inl mW))), (mz, .inl (gI G, 480, .inl (kz_z mZ))), (mv, .inl (gI G, 480, .inl mV)), (mp, .inl (gZ G, 3, .inl (kz_bo po))), (mh, .inl (gI G, 3, .inl (kz_pw pw)))] := hD
              refine lv_aload_n hx hb dX4_get_83 rfl (lv_at hl 3 rfl) ?_
              refine va_get (D := G.1) (ci := 4) (v := .int 1) (C := RX4) (T := TX4) (N := 7) hx hb hts hinX4 hown hK.1 hP 0 rfl rfl 0 (by decide) (hts (.fieldLink RX4 30 "ForkStoreModel" "thrown" "I") (by decide +kernel)) (fun _ h9 => h9) rfl dX4_get_84 ?_
              refine lv_if_le (tgt := 94) hx hb dX4_get_87 (by decide) (fun c_18 => ?_) (fun c_18 => ?_)
              · exact absurd c_18 (by decide)
              · refine lv_iconst (v := 0) hx hb dX4_get_90 (by decide) ?_
                refine lv_goto (tgt := 101) hx hb dX4_get_91 (by decide) ?_
                exact W.iret (v := 0) hx hb hr (fun t ht hW => ⟨⟨_, ([(mo, .inr (4, [.int 1, .ref mc, .ref mw, .ref mz, .ref mv, .ref mp, .ref mh])), (mc, .inl (gI G, 4, .inl (kz_z cs))), (mw, .inl (gJ G, 480, .inr (.inl mW))), (mz, .inl (gI G, 480, .inl (kz_z mZ))), (mv, .inl (gI G, 480, .inl mV)), (mp, .inl (gZ G, 3, .inl (kz_bo po))), (mh, .inl (gI G, 3, .inl (kz_pw pw)))] : va_W), rfl, (Or.inl ⟨hno, rfl, rfl⟩), by rw [← ht] at hP; exact hP⟩, hS.F ht⟩) hS.2.2 dX4_get_101
          · exact absurd c_16 (by decide)
        · exact absurd c_15 (by decide)
      · exact absurd ⟨Int32.not_lt.mp c_9, Int32.not_lt.mp c_14⟩ hno

set_option maxHeartbeats 4000000 in
set_option maxRecDepth 100000 in
theorem c_X4_remove (l : Launch) (G : kz_G) (mo mc mw mz mv mp mh : Nat) (tv : Int32) (cs : Nat → Nat) (mW : Nat → Int64) (mZ : Nat → Nat) (mV : Nat → Int32) (po : Nat → Bool) (pw : Nat → Nat) (ww : Int64) (nv : Int32) (sz : Nat) (hcs : ∀ j, cs j ≤ 120) (hmz : ∀ j, mZ j ≤ 8) : Met l yX4_remove wsX4_remove { frames := 2, cells := 0, slots := 0, locals := 51 } (kz_Pm G [.ref mo, .long ww, .int nv] [(mo, .inr (4, [.int tv, .ref mc, .ref mw, .ref mz, .ref mv, .ref mp, .ref mh])), (mc, .inl (gI G, 4, .inl (kz_z cs))), (mw, .inl (gJ G, 480, .inr (.inl mW))), (mz, .inl (gI G, 480, .inl (kz_z mZ))), (mv, .inl (gI G, 480, .inl mV)), (mp, .inl (gZ G, 3, .inl (kz_bo po))), (mh, .inl (gI G, 3, .inl (kz_pw pw)))] sz) (kz_Qi G (fun r w => (¬ (0 ≤ nv ∧ nv ≤ 8) ∧ r = 0 ∧ w = [(mo, .inr (4, [.int 0, .ref mc, .ref mw, .ref mz, .ref mv, .ref mp, .ref mh])), (mc, .inl (gI G, 4, .inl (kz_z cs))), (mw, .inl (gJ G, 480, .inr (.inl mW))), (mz, .inl (gI G, 480, .inl (kz_z mZ))), (mv, .inl (gI G, 480, .inl mV)), (mp, .inl (gZ G, 3, .inl (kz_bo po))), (mh, .inl (gI G, 3, .inl (kz_pw pw)))]) ∨ (∃ zz : Nat, zz ≤ 8 ∧ nv = nI zz ∧ kf_st mW mZ (kf_cut ww zz) zz (cs 0) ∧ r = 1 ∧ w = [(mo, .inr (4, [.int 0, .ref mc, .ref mw, .ref mz, .ref mv, .ref mp, .ref mh])), (mc, .inl (gI G, 4, .inl (kz_z (kz_un cs 0 (cs 0 - 1))))), (mw, .inl (gJ G, 480, .inr (.inl (kf_dn mW (kf_cb mW mZ (kf_cut ww zz) zz (cs 0)) (cs 0 - 1))))), (mz, .inl (gI G, 480, .inl (kz_z (kf_dn mZ (kf_cb mW mZ (kf_cut ww zz) zz (cs 0)) (cs 0 - 1))))), (mv, .inl (gI G, 480, .inl (kf_dn mV (kf_cb mW mZ (kf_cut ww zz) zz (cs 0)) (cs 0 - 1)))), (mp, .inl (gZ G, 3, .inl (kz_bo po))), (mh, .inl (gI G, 3, .inl (kz_pw pw)))]) ∨ (∃ zz : Nat, zz ≤ 8 ∧ nv = nI zz ∧ ¬ kf_st mW mZ (kf_cut ww zz) zz (cs 0) ∧ r = 0 ∧ w = [(mo, .inr (4, [.int 0, .ref mc, .ref mw, .ref mz, .ref mv, .ref mp, .ref mh])), (mc, .inl (gI G, 4, .inl (kz_z cs))), (mw, .inl (gJ G, 480, .inr (.inl mW))), (mz, .inl (gI G, 480, .inl (kz_z mZ))), (mv, .inl (gI G, 480, .inl mV)), (mp, .inl (gZ G, 3, .inl (kz_bo po))), (mh, .inl (gI G, 3, .inl (kz_pw pw)))])) (va_A [(mo, .inr (4, [.int tv, .ref mc, .ref mw, .ref mz, .ref mv, .ref mp, .ref mh])), (mc, .inl (gI G, 4, .inl (kz_z cs))), (mw, .inl (gJ G, 480, .inr (.inl mW))), (mz, .inl (gI G, 480, .inl (kz_z mZ))), (mv, .inl (gI G, 480, .inl mV)), (mp, .inl (gZ G, 3, .inl (kz_bo po))), (mh, .inl (gI G, 3, .inl (kz_pw pw)))] sz)) 0 0 (va_A [(mo, .inr (4, [.int tv, .ref mc, .ref mw, .ref mz, .ref mv, .ref mp, .ref mh])), (mc, .inl (gI G, 4, .inl (kz_z cs))), (mw, .inl (gJ G, 480, .inr (.inl mW))), (mz, .inl (gI G, 480, .inl (kz_z mZ))), (mv, .inl (gI G, 480, .inl mV)), (mp, .inl (gZ G, 3, .inl (kz_bo po))), (mh, .inl (gI G, 3, .inl (kz_pw pw)))] sz) := by
  refine Met.ofW (cc := cX4_remove) (maxL := 6) (ret := (some .boolean)) (by decide) rfl ?_
  intro p e s m args below meth c s₁ B hml hv
  obtain ⟨rfl, hsz, hP, hK, hD0⟩ := hv
  have hx := B.exec
  have hb := B.bytes
  have hr := B.returns
  have hts := atoms_spec (ws := wsX4_remove) B.pre
  have hown : s.vm.findClass RX4 = some m.cls := findClass_of_methodNamed B.named
  have hlocks := B.notSynchronized
  have hinX4 : ∀ w ∈ wsX40, w ∈ wsX4_remove := by decide +kernel
  subst hsz
  have hD := hD0.self (sz := s.heap.size)
  generalize hAe : va_A [(mo, .inr (4, [.int tv, .ref mc, .ref mw, .ref mz, .ref mv, .ref mp, .ref mh])), (mc, .inl (gI G, 4, .inl (kz_z cs))), (mw, .inl (gJ G, 480, .inr (.inl mW))), (mz, .inl (gI G, 480, .inl (kz_z mZ))), (mv, .inl (gI G, 480, .inl mV)), (mp, .inl (gZ G, 3, .inl (kz_bo po))), (mh, .inl (gI G, 3, .inl (kz_pw pw)))] s.heap.size = A at hD ⊢
  have hA : ∀ q : Nat, s.heap.size ≤ q → A q := fun q h => by rw [← hAe]; exact Or.inr h
  have hS : va_S A s.heap s.heap [] := va_S.rf
  have hP : va_P G.1 vwCl [(mo, .inr (4, [.int tv, .ref mc, .ref mw, .ref mz, .ref mv, .ref mp, .ref mh])), (mc, .inl (gI G, 4, .inl (kz_z cs))), (mw, .inl (gJ G, 480, .inr (.inl mW))), (mz, .inl (gI G, 480, .inl (kz_z mZ))), (mv, .inl (gI G, 480, .inl mV)), (mp, .inl (gZ G, 3, .inl (kz_bo po))), (mh, .inl (gI G, 3, .inl (kz_pw pw)))] s.heap := hP
  have hl := lv_entry ([.ref mo, .long ww, .int nv]) (n := 6) (Nat.le_of_ble_eq_true rfl)
  rw [lg_entry_eq]
  generalize (lg_sl ([.ref mo, .long ww, .int nv]) ++ List.replicate (6 - (lg_sl ([.ref mo, .long ww, .int nv])).length) Slot.unset).toArray = ls at hl ⊢
  have hl : lv_has ls 6 [(0, .ref mo), (1, .long ww), (3, .int nv)] := hl
  rcases kf_okc nv with ⟨zz, hzz, rfl⟩ | hno
  · have hl : lv_has ls 6 [(0, .ref mo), (1, .long ww), (3, .int (nI zz))] := hl
    refine lv_aload_n hx hb dX4_remove_0 rfl (lv_at hl 0 rfl) ?_
    refine lv_iconst (v := 0) hx hb dX4_remove_1 (by decide) ?_
    refine va_put (D := G.1) (ci := 4) (v := .int 0) (ty := .int) (C := RX4) (T := TX4) (N := 7) hx hb hts hinX4 tyX4 tyX4_ok nmX4 hown hK.1 hP hD hS 0 rfl rfl 0 (by decide) (hts (.fieldLink RX4 30 "ForkStoreModel" "thrown" "I") (by decide +kernel)) (fun _ h9 => h9) rfl (by decide +kernel) rfl rfl (Nat.le_of_ble_eq_true rfl) dX4_remove_2 (fun H locs hP hD hS => ?_)
    have hP : va_P G.1 vwCl [(mo, .inr (4, [.int 0, .ref mc, .ref mw, .ref mz, .ref mv, .ref mp, .ref mh])), (mc, .inl (gI G, 4, .inl (kz_z cs))), (mw, .inl (gJ G, 480, .inr (.inl mW))), (mz, .inl (gI G, 480, .inl (kz_z mZ))), (mv, .inl (gI G, 480, .inl mV)), (mp, .inl (gZ G, 3, .inl (kz_bo po))), (mh, .inl (gI G, 3, .inl (kz_pw pw)))] H := hP
    have hD : va_D A [(mo, .inr (4, [.int 0, .ref mc, .ref mw, .ref mz, .ref mv, .ref mp, .ref mh])), (mc, .inl (gI G, 4, .inl (kz_z cs))), (mw, .inl (gJ G, 480, .inr (.inl mW))), (mz, .inl (gI G, 480, .inl (kz_z mZ))), (mv, .inl (gI G, 480, .inl mV)), (mp, .inl (gZ G, 3, .inl (kz_bo po))), (mh, .inl (gI G, 3, .inl (kz_pw pw)))] := hD
    refine lv_iload_n hx hb dX4_remove_5 rfl (lv_at hl 2 rfl) ?_
    refine lv_if_lt (tgt := 15) hx hb dX4_remove_6 (by decide) (fun c_1 => ?_) (fun c_1 => ?_)
    · exact absurd c_1 (nI_pos (by omega))
    · refine lv_iload_n hx hb dX4_remove_9 rfl (lv_at hl 2 rfl) ?_
      refine lv_bipush (v := 8) hx hb dX4_remove_10 (by decide) ?_
      refine lv_icmp_le (tgt := 17) hx hb dX4_remove_12 (by decide) (fun c_2 => ?_) (fun c_2 => ?_)
      · refine lv_aload_n hx hb dX4_remove_17 rfl (lv_at hl 0 rfl) ?_
        refine lv_iconst (v := 0) hx hb dX4_remove_18 (by decide) ?_
        refine lv_lload_n hx hb dX4_remove_19 rfl (lv_at hl 1 rfl) ?_
        refine lv_iload_n hx hb dX4_remove_20 rfl (lv_at hl 2 rfl) ?_
        refine kz_cl (v := kf_cut ww zz) (va_runS (As := [.long ww, .int (nI zz)]) (rest := [.int 0, .ref mo]) ⟨hx, hb, hml, hown, hts⟩ (c_X4_cut l ww zz (by omega)) (va_cwS 2 hts gX4_remove_X4_cut rfl rfl rfl (by decide +kernel) ⟨Nat.le_of_ble_eq_true rfl, Nat.le_of_ble_eq_true rfl⟩) kz_ps0 rfl rfl hl.1 rfl (lv_room (Nat.le_of_ble_eq_true rfl)) dX4_remove_21 ⟨Nat.zero_le _, Nat.zero_le _⟩).run ?_
        refine lv_iload_n hx hb dX4_remove_24 rfl (lv_at hl 2 rfl) ?_
        have hPc := hP.sub (ws' := [(mo, .inr (4, [.int 0, .ref mc, .ref mw, .ref mz, .ref mv, .ref mp, .ref mh])), (mc, .inl (gI G, 4, .inl (kz_z cs))), (mw, .inl (gJ G, 480, .inr (.inl mW))), (mz, .inl (gI G, 480, .inl (kz_z mZ))), (mv, .inl (gI G, 480, .inl mV)), (mp, .inl (gZ G, 3, .inl (kz_bo po))), (mh, .inl (gI G, 3, .inl (kz_pw pw)))]) [0, 1, 2, 3, 4, 5, 6] rfl
        refine kz_ci (v := nI (kf_cb mW mZ (kf_cut ww zz) zz (cs 0))) (va_runV (As := [.int 0, .long (kf_cut ww zz), .int (nI zz)]) (rest := []) ⟨hx, hb, hml, hown, hts⟩ (c_X4_place0 l G mo mc mw mz mv mp mh 0 cs mW mZ mV po pw (kf_cut ww zz) zz hcs hmz (by omega)) (cwV 3 hts gX4_remove_X4_place rfl rfl rfl (by decide +kernel) ⟨Nat.le_of_ble_eq_true rfl, Nat.le_of_ble_eq_true rfl⟩) (kz_pv hK hPc (va_recv hK.1 hPc (ci := 4) (q0 := 0) rfl rfl)) rfl rfl hl.1 rfl (lv_room (Nat.le_of_ble_eq_true rfl)) dX4_remove_25 ⟨Nat.zero_le _, Nat.zero_le _⟩).run ?_
        refine lv_istore (lv' := [(4, .int (nI (kf_cb mW mZ (kf_cut ww zz) zz (cs 0)))), (0, .ref mo), (1, .long ww), (3, .int (nI zz))]) hx hb dX4_remove_28 hl (by decide) rfl (fun ls hl => ?_)
        have hcb := kf_cb_le mW mZ (kf_cut ww zz) zz (cs 0)
        have hc0 := hcs 0
        refine lv_aload_n hx hb dX4_remove_30 rfl (lv_at hl 1 rfl) ?_
        refine lv_iconst (v := 0) hx hb dX4_remove_31 (by decide) ?_
        refine lv_iload hx hb dX4_remove_32 (lv_at hl 0 rfl) ?_
        refine lv_lload_n hx hb dX4_remove_34 rfl (lv_at hl 2 rfl) ?_
        refine lv_iload_n hx hb dX4_remove_35 rfl (lv_at hl 3 rfl) ?_
        refine kz_cl (v := kf_cut ww zz) (va_runS (As := [.long ww, .int (nI zz)]) (rest := [.int (nI (kf_cb mW mZ (kf_cut ww zz) zz (cs 0))), .int 0, .ref mo]) ⟨hx, hb, hml, hown, hts⟩ (c_X4_cut l ww zz (by omega)) (va_cwS 2 hts gX4_remove_X4_cut rfl rfl rfl (by decide +kernel) ⟨Nat.le_of_ble_eq_true rfl, Nat.le_of_ble_eq_true rfl⟩) kz_ps0 rfl rfl hl.1 rfl (lv_room (Nat.le_of_ble_eq_true rfl)) dX4_remove_36 ⟨Nat.zero_le _, Nat.zero_le _⟩).run ?_
        refine lv_iload_n hx hb dX4_remove_39 rfl (lv_at hl 3 rfl) ?_
        have hPc := hP.sub (ws' := [(mo, .inr (4, [.int 0, .ref mc, .ref mw, .ref mz, .ref mv, .ref mp, .ref mh])), (mc, .inl (gI G, 4, .inl (kz_z cs))), (mw, .inl (gJ G, 480, .inr (.inl mW))), (mz, .inl (gI G, 480, .inl (kz_z mZ))), (mv, .inl (gI G, 480, .inl mV)), (mp, .inl (gZ G, 3, .inl (kz_bo po))), (mh, .inl (gI G, 3, .inl (kz_pw pw)))]) [0, 1, 2, 3, 4, 5, 6] rfl
        refine kz_ci (v := if (kf_cb mW mZ (kf_cut ww zz) zz (cs 0)) < cs 0 ∧ mW (kf_cb mW mZ (kf_cut ww zz) zz (cs 0)) = kf_cut ww zz ∧ mZ (kf_cb mW mZ (kf_cut ww zz) zz (cs 0)) = zz then 1 else 0) (va_runV (As := [.int 0, .int (nI (kf_cb mW mZ (kf_cut ww zz) zz (cs 0))), .long (kf_cut ww zz), .int (nI zz)]) (rest := []) ⟨hx, hb, hml, hown, hts⟩ (c_X4_has0 l G mo mc mw mz mv mp mh 0 cs mW mZ mV po pw (kf_cb mW mZ (kf_cut ww zz) zz (cs 0)) (kf_cut ww zz) zz hcs hmz (by omega) (by omega)) (cwV 4 hts gX4_remove_X4_has rfl rfl rfl (by decide +kernel) ⟨Nat.le_of_ble_eq_true rfl, Nat.le_of_ble_eq_true rfl⟩) (kz_pv hK hPc (va_recv hK.1 hPc (ci := 4) (q0 := 0) rfl rfl)) rfl rfl hl.1 rfl (lv_room (Nat.le_of_ble_eq_true rfl)) dX4_remove_40 ⟨Nat.zero_le _, Nat.zero_le _⟩).run ?_
        refine lv_if_ne (tgt := 48) hx hb dX4_remove_43 (by decide) (fun c_3 => ?_) (fun c_3 => ?_)
        · have kc_3 := kf_if1 c_3
          have hlt := kc_3.1
          refine lv_aload_n hx hb dX4_remove_48 rfl (lv_at hl 1 rfl) ?_
          refine va_get (D := G.1) (ci := 4) (v := .ref mc) (C := RX4) (T := TX4) (N := 7) hx hb hts hinX4 hown hK.1 hP 0 rfl rfl 1 (by decide) (hts (.fieldLink RX4 7 "ForkStoreModel" "counts" "[I") (by decide +kernel)) (fun _ h9 => h9) rfl dX4_remove_49 ?_
          refine lv_iconst (v := 0) hx hb dX4_remove_52 (by decide) ?_
          refine lv_dup2_11 hx hb dX4_remove_53 rfl rfl ?_
          refine kz_iald hx hb hK.1 hP 1 0 rfl rfl (k := 0) (by decide) (by decide) dX4_remove_54 ?_
          refine kz_asi (y := nI (cs 0)) rfl ?_
          refine lv_iconst (v := 1) hx hb dX4_remove_55 (by decide) ?_
          refine lv_isub hx hb dX4_remove_56 ?_
          refine kz_asi (y := nI (cs 0 - 1)) (pk_sub (a := cs 0) (b := 1) (by omega)) ?_
          refine kz_iast hx hb hK.1 hP hD hS 1 0 rfl rfl (k := 0) (by decide) (by decide) dX4_remove_57 (fun H locs hP hD hS => ?_)
          have hP : va_P G.1 vwCl [(mo, .inr (4, [.int 0, .ref mc, .ref mw, .ref mz, .ref mv, .ref mp, .ref mh])), (mc, .inl (gI G, 4, .inl (upd (kz_z cs) 0 (nI (cs 0 - 1))))), (mw, .inl (gJ G, 480, .inr (.inl mW))), (mz, .inl (gI G, 480, .inl (kz_z mZ))), (mv, .inl (gI G, 480, .inl mV)), (mp, .inl (gZ G, 3, .inl (kz_bo po))), (mh, .inl (gI G, 3, .inl (kz_pw pw)))] H := hP
          have hD : va_D A [(mo, .inr (4, [.int 0, .ref mc, .ref mw, .ref mz, .ref mv, .ref mp, .ref mh])), (mc, .inl (gI G, 4, .inl (upd (kz_z cs) 0 (nI (cs 0 - 1))))), (mw, .inl (gJ G, 480, .inr (.inl mW))), (mz, .inl (gI G, 480, .inl (kz_z mZ))), (mv, .inl (gI G, 480, .inl mV)), (mp, .inl (gZ G, 3, .inl (kz_bo po))), (mh, .inl (gI G, 3, .inl (kz_pw pw)))] := hD
          rw [show upd (kz_z cs) 0 (nI (cs 0 - 1)) = kz_z (kz_un cs 0 (cs 0 - 1)) from (kz_zu _ _ _).symm] at hP hD
          have hP : va_P G.1 vwCl [(mo, .inr (4, [.int 0, .ref mc, .ref mw, .ref mz, .ref mv, .ref mp, .ref mh])), (mc, .inl (gI G, 4, .inl (kz_z (kz_un cs 0 (cs 0 - 1))))), (mw, .inl (gJ G, 480, .inr (.inl mW))), (mz, .inl (gI G, 480, .inl (kz_z mZ))), (mv, .inl (gI G, 480, .inl mV)), (mp, .inl (gZ G, 3, .inl (kz_bo po))), (mh, .inl (gI G, 3, .inl (kz_pw pw)))] H := hP
          have hD : va_D A [(mo, .inr (4, [.int 0, .ref mc, .ref mw, .ref mz, .ref mv, .ref mp, .ref mh])), (mc, .inl (gI G, 4, .inl (kz_z (kz_un cs 0 (cs 0 - 1))))), (mw, .inl (gJ G, 480, .inr (.inl mW))), (mz, .inl (gI G, 480, .inl (kz_z mZ))), (mv, .inl (gI G, 480, .inl mV)), (mp, .inl (gZ G, 3, .inl (kz_bo po))), (mh, .inl (gI G, 3, .inl (kz_pw pw)))] := hD
          refine lv_iload hx hb dX4_remove_58 (lv_at hl 0 rfl) ?_
          refine lv_istore (lv' := [(5, .int (nI (kf_cb mW mZ (kf_cut ww zz) zz (cs 0)))), (4, .int (nI (kf_cb mW mZ (kf_cut ww zz) zz (cs 0)))), (0, .ref mo), (1, .long ww), (3, .int (nI zz))]) hx hb dX4_remove_60 hl (by decide) rfl (fun ls hl => ?_)
          refine kz_loopm (D := G.1) (cl := vwCl) (A := A) (H0 := s.heap) (nL := 6) (hd := 62) (e9 := cs 0 - 1 - (kf_cb mW mZ (kf_cut ww zz) zz (cs 0))) (i0 := 0) (LV := fun ii => [(5, .int (nI ((kf_cb mW mZ (kf_cut ww zz) zz (cs 0)) + ii))), (0, .ref mo), (1, .long ww), (3, .int (nI zz)), (4, .int (nI (kf_cb mW mZ (kf_cut ww zz) zz (cs 0))))]) (WV := fun ii => [(mo, .inr (4, [.int 0, .ref mc, .ref mw, .ref mz, .ref mv, .ref mp, .ref mh])), (mc, .inl (gI G, 4, .inl (kz_z (kz_un cs 0 (cs 0 - 1))))), (mw, .inl (gJ G, 480, .inr (.inl (kf_dn mW (kf_cb mW mZ (kf_cut ww zz) zz (cs 0)) ((kf_cb mW mZ (kf_cut ww zz) zz (cs 0)) + ii))))), (mz, .inl (gI G, 480, .inl (kz_z (kf_dn mZ (kf_cb mW mZ (kf_cut ww zz) zz (cs 0)) ((kf_cb mW mZ (kf_cut ww zz) zz (cs 0)) + ii))))), (mv, .inl (gI G, 480, .inl (kf_dn mV (kf_cb mW mZ (kf_cut ww zz) zz (cs 0)) ((kf_cb mW mZ (kf_cut ww zz) zz (cs 0)) + ii)))), (mp, .inl (gZ G, 3, .inl (kz_bo po))), (mh, .inl (gI G, 3, .inl (kz_pw pw)))]) (fun ii H locs ls hii hl hP hD hS ih => ?_) (Nat.zero_le _) (lv_sub hl [0, 2, 3, 4, 1] rfl) (by simp only [Nat.add_zero, kf_dn_id]; exact hP) (by simp only [Nat.add_zero, kf_dn_id]; exact hD) hS
          have hl : lv_has ls 6 [(5, .int (nI ((kf_cb mW mZ (kf_cut ww zz) zz (cs 0)) + ii))), (0, .ref mo), (1, .long ww), (3, .int (nI zz)), (4, .int (nI (kf_cb mW mZ (kf_cut ww zz) zz (cs 0))))] := hl
          have hP : va_P G.1 vwCl [(mo, .inr (4, [.int 0, .ref mc, .ref mw, .ref mz, .ref mv, .ref mp, .ref mh])), (mc, .inl (gI G, 4, .inl (kz_z (kz_un cs 0 (cs 0 - 1))))), (mw, .inl (gJ G, 480, .inr (.inl (kf_dn mW (kf_cb mW mZ (kf_cut ww zz) zz (cs 0)) ((kf_cb mW mZ (kf_cut ww zz) zz (cs 0)) + ii))))), (mz, .inl (gI G, 480, .inl (kz_z (kf_dn mZ (kf_cb mW mZ (kf_cut ww zz) zz (cs 0)) ((kf_cb mW mZ (kf_cut ww zz) zz (cs 0)) + ii))))), (mv, .inl (gI G, 480, .inl (kf_dn mV (kf_cb mW mZ (kf_cut ww zz) zz (cs 0)) ((kf_cb mW mZ (kf_cut ww zz) zz (cs 0)) + ii)))), (mp, .inl (gZ G, 3, .inl (kz_bo po))), (mh, .inl (gI G, 3, .inl (kz_pw pw)))] H := hP
          have hD : va_D A [(mo, .inr (4, [.int 0, .ref mc, .ref mw, .ref mz, .ref mv, .ref mp, .ref mh])), (mc, .inl (gI G, 4, .inl (kz_z (kz_un cs 0 (cs 0 - 1))))), (mw, .inl (gJ G, 480, .inr (.inl (kf_dn mW (kf_cb mW mZ (kf_cut ww zz) zz (cs 0)) ((kf_cb mW mZ (kf_cut ww zz) zz (cs 0)) + ii))))), (mz, .inl (gI G, 480, .inl (kz_z (kf_dn mZ (kf_cb mW mZ (kf_cut ww zz) zz (cs 0)) ((kf_cb mW mZ (kf_cut ww zz) zz (cs 0)) + ii))))), (mv, .inl (gI G, 480, .inl (kf_dn mV (kf_cb mW mZ (kf_cut ww zz) zz (cs 0)) ((kf_cb mW mZ (kf_cut ww zz) zz (cs 0)) + ii)))), (mp, .inl (gZ G, 3, .inl (kz_bo po))), (mh, .inl (gI G, 3, .inl (kz_pw pw)))] := hD
          refine lv_iload hx hb dX4_remove_62 (lv_at hl 0 rfl) ?_
          refine lv_aload_n hx hb dX4_remove_64 rfl (lv_at hl 1 rfl) ?_
          refine va_get (D := G.1) (ci := 4) (v := .ref mc) (C := RX4) (T := TX4) (N := 7) hx hb hts hinX4 hown hK.1 hP 0 rfl rfl 1 (by decide) (hts (.fieldLink RX4 7 "ForkStoreModel" "counts" "[I") (by decide +kernel)) (fun _ h9 => h9) rfl dX4_remove_65 ?_
          refine lv_iconst (v := 0) hx hb dX4_remove_68 (by decide) ?_
          refine kz_iald hx hb hK.1 hP 1 0 rfl rfl (k := 0) (by decide) (by decide) dX4_remove_69 ?_
          refine kz_asi (y := nI ((kz_un cs 0 (cs 0 - 1)) 0)) rfl ?_
          refine kz_asi (y := nI (cs 0 - 1)) rfl ?_
          refine lv_icmp_ge (tgt := 89) hx hb dX4_remove_70 (by decide) (fun c_4 => ?_) (fun c_4 => ?_)
          · have kc_4 : cs 0 - 1 ≤ (kf_cb mW mZ (kf_cut ww zz) zz (cs 0)) + ii := (nI_leI (by omega) (by omega)).mp c_4
            rw [show (kf_cb mW mZ (kf_cut ww zz) zz (cs 0)) + ii = cs 0 - 1 from by omega] at hP hD
            have hP : va_P G.1 vwCl [(mo, .inr (4, [.int 0, .ref mc, .ref mw, .ref mz, .ref mv, .ref mp, .ref mh])), (mc, .inl (gI G, 4, .inl (kz_z (kz_un cs 0 (cs 0 - 1))))), (mw, .inl (gJ G, 480, .inr (.inl (kf_dn mW (kf_cb mW mZ (kf_cut ww zz) zz (cs 0)) (cs 0 - 1))))), (mz, .inl (gI G, 480, .inl (kz_z (kf_dn mZ (kf_cb mW mZ (kf_cut ww zz) zz (cs 0)) (cs 0 - 1))))), (mv, .inl (gI G, 480, .inl (kf_dn mV (kf_cb mW mZ (kf_cut ww zz) zz (cs 0)) (cs 0 - 1)))), (mp, .inl (gZ G, 3, .inl (kz_bo po))), (mh, .inl (gI G, 3, .inl (kz_pw pw)))] _ := hP
            have hD : va_D A [(mo, .inr (4, [.int 0, .ref mc, .ref mw, .ref mz, .ref mv, .ref mp, .ref mh])), (mc, .inl (gI G, 4, .inl (kz_z (kz_un cs 0 (cs 0 - 1))))), (mw, .inl (gJ G, 480, .inr (.inl (kf_dn mW (kf_cb mW mZ (kf_cut ww zz) zz (cs 0)) (cs 0 - 1))))), (mz, .inl (gI G, 480, .inl (kz_z (kf_dn mZ (kf_cb mW mZ (kf_cut ww zz) zz (cs 0)) (cs 0 - 1))))), (mv, .inl (gI G, 480, .inl (kf_dn mV (kf_cb mW mZ (kf_cut ww zz) zz (cs 0)) (cs 0 - 1)))), (mp, .inl (gZ G, 3, .inl (kz_bo po))), (mh, .inl (gI G, 3, .inl (kz_pw pw)))] := hD
            refine lv_iconst (v := 1) hx hb dX4_remove_89 (by decide) ?_
            exact W.zret (v := 1) hx hb hr rfl (fun t ht hW => ⟨⟨_, ([(mo, .inr (4, [.int 0, .ref mc, .ref mw, .ref mz, .ref mv, .ref mp, .ref mh])), (mc, .inl (gI G, 4, .inl (kz_z (kz_un cs 0 (cs 0 - 1))))), (mw, .inl (gJ G, 480, .inr (.inl (kf_dn mW (kf_cb mW mZ (kf_cut ww zz) zz (cs 0)) (cs 0 - 1))))), (mz, .inl (gI G, 480, .inl (kz_z (kf_dn mZ (kf_cb mW mZ (kf_cut ww zz) zz (cs 0)) (cs 0 - 1))))), (mv, .inl (gI G, 480, .inl (kf_dn mV (kf_cb mW mZ (kf_cut ww zz) zz (cs 0)) (cs 0 - 1)))), (mp, .inl (gZ G, 3, .inl (kz_bo po))), (mh, .inl (gI G, 3, .inl (kz_pw pw)))] : va_W), rfl, (Or.inr (Or.inl ⟨zz, hzz, rfl, kc_3, rfl, rfl⟩)), by rw [← ht] at hP; exact hP⟩, hS.F ht⟩) hS.2.2 dX4_remove_90
          · have kc_4 : (kf_cb mW mZ (kf_cut ww zz) zz (cs 0)) + ii < cs 0 - 1 := Nat.lt_of_not_le (fun h => c_4 (nI_le h (by omega)))
            refine lv_aload_n hx hb dX4_remove_73 rfl (lv_at hl 1 rfl) ?_
            refine lv_iload hx hb dX4_remove_74 (lv_at hl 0 rfl) ?_
            refine lv_iconst (v := 1) hx hb dX4_remove_76 (by decide) ?_
            refine lv_iadd hx hb dX4_remove_77 ?_
            refine kz_asi (y := nI ((kf_cb mW mZ (kf_cut ww zz) zz (cs 0)) + ii + 1)) (nI_1 _) ?_
            refine lv_iload hx hb dX4_remove_78 (lv_at hl 0 rfl) ?_
            have hPc := hP.sub (ws' := [(mo, .inr (4, [.int 0, .ref mc, .ref mw, .ref mz, .ref mv, .ref mp, .ref mh])), (mc, .inl (gI G, 4, .inl (kz_z (kz_un cs 0 (cs 0 - 1))))), (mw, .inl (gJ G, 480, .inr (.inl (kf_dn mW (kf_cb mW mZ (kf_cut ww zz) zz (cs 0)) ((kf_cb mW mZ (kf_cut ww zz) zz (cs 0)) + ii))))), (mz, .inl (gI G, 480, .inl (kz_z (kf_dn mZ (kf_cb mW mZ (kf_cut ww zz) zz (cs 0)) ((kf_cb mW mZ (kf_cut ww zz) zz (cs 0)) + ii))))), (mv, .inl (gI G, 480, .inl (kf_dn mV (kf_cb mW mZ (kf_cut ww zz) zz (cs 0)) ((kf_cb mW mZ (kf_cut ww zz) zz (cs 0)) + ii)))), (mp, .inl (gZ G, 3, .inl (kz_bo po))), (mh, .inl (gI G, 3, .inl (kz_pw pw)))]) [0, 1, 2, 3, 4, 5, 6] rfl
            have hDc := hD.sub (ws' := [(mo, .inr (4, [.int 0, .ref mc, .ref mw, .ref mz, .ref mv, .ref mp, .ref mh])), (mc, .inl (gI G, 4, .inl (kz_z (kz_un cs 0 (cs 0 - 1))))), (mw, .inl (gJ G, 480, .inr (.inl (kf_dn mW (kf_cb mW mZ (kf_cut ww zz) zz (cs 0)) ((kf_cb mW mZ (kf_cut ww zz) zz (cs 0)) + ii))))), (mz, .inl (gI G, 480, .inl (kz_z (kf_dn mZ (kf_cb mW mZ (kf_cut ww zz) zz (cs 0)) ((kf_cb mW mZ (kf_cut ww zz) zz (cs 0)) + ii))))), (mv, .inl (gI G, 480, .inl (kf_dn mV (kf_cb mW mZ (kf_cut ww zz) zz (cs 0)) ((kf_cb mW mZ (kf_cut ww zz) zz (cs 0)) + ii)))), (mp, .inl (gZ G, 3, .inl (kz_bo po))), (mh, .inl (gI G, 3, .inl (kz_pw pw)))]) [0, 1, 2, 3, 4, 5, 6] (by decide) rfl
            have hFc := va_free (wc := [(mo, .inr (4, [.int 0, .ref mc, .ref mw, .ref mz, .ref mv, .ref mp, .ref mh])), (mc, .inl (gI G, 4, .inl (kz_z (kz_un cs 0 (cs 0 - 1))))), (mw, .inl (gJ G, 480, .inr (.inl (kf_dn mW (kf_cb mW mZ (kf_cut ww zz) zz (cs 0)) ((kf_cb mW mZ (kf_cut ww zz) zz (cs 0)) + ii))))), (mz, .inl (gI G, 480, .inl (kz_z (kf_dn mZ (kf_cb mW mZ (kf_cut ww zz) zz (cs 0)) ((kf_cb mW mZ (kf_cut ww zz) zz (cs 0)) + ii))))), (mv, .inl (gI G, 480, .inl (kf_dn mV (kf_cb mW mZ (kf_cut ww zz) zz (cs 0)) ((kf_cb mW mZ (kf_cut ww zz) zz (cs 0)) + ii)))), (mp, .inl (gZ G, 3, .inl (kz_bo po))), (mh, .inl (gI G, 3, .inl (kz_pw pw)))]) hD hS hA [0, 1, 2, 3, 4, 5, 6] rfl
            refine va_callv (va_runV (As := [.int (nI ((kf_cb mW mZ (kf_cut ww zz) zz (cs 0)) + ii + 1)), .int (nI ((kf_cb mW mZ (kf_cut ww zz) zz (cs 0)) + ii))]) (rest := []) ⟨hx, hb, hml, hown, hts⟩ (c_X4_copy l G mo mc mw mz mv mp mh 0 (kz_un cs 0 (cs 0 - 1)) (kf_dn mW (kf_cb mW mZ (kf_cut ww zz) zz (cs 0)) ((kf_cb mW mZ (kf_cut ww zz) zz (cs 0)) + ii)) (kf_dn mZ (kf_cb mW mZ (kf_cut ww zz) zz (cs 0)) ((kf_cb mW mZ (kf_cut ww zz) zz (cs 0)) + ii)) (kf_dn mV (kf_cb mW mZ (kf_cut ww zz) zz (cs 0)) ((kf_cb mW mZ (kf_cut ww zz) zz (cs 0)) + ii)) po pw ((kf_cb mW mZ (kf_cut ww zz) zz (cs 0)) + ii + 1) ((kf_cb mW mZ (kf_cut ww zz) zz (cs 0)) + ii) _ (by omega) (by omega)) (cwV 2 hts gX4_remove_X4_copy rfl rfl rfl (by decide +kernel) ⟨Nat.le_of_ble_eq_true rfl, Nat.le_of_ble_eq_true rfl⟩) (kz_pvm hK hPc hDc (va_recv hK.1 hPc (ci := 4) (q0 := 0) rfl rfl)) rfl rfl hl.1 rfl (lv_room (Nat.le_of_ble_eq_true rfl)) dX4_remove_80 ⟨Nat.zero_le _, Nat.zero_le _⟩) hS (fun q _ h => hFc q h) hFc (fun u t H locs ht hvm hw hB hqz9 hqk9 hS => ?_)
            have hw : u = [(mo, .inr (4, [.int 0, .ref mc, .ref mw, .ref mz, .ref mv, .ref mp, .ref mh])), (mc, .inl (gI G, 4, .inl (kz_z (kz_un cs 0 (cs 0 - 1))))), (mw, .inl (gJ G, 480, .inr (.inl (vp_updL (kf_dn mW (kf_cb mW mZ (kf_cut ww zz) zz (cs 0)) ((kf_cb mW mZ (kf_cut ww zz) zz (cs 0)) + ii)) ((kf_cb mW mZ (kf_cut ww zz) zz (cs 0)) + ii) ((kf_dn mW (kf_cb mW mZ (kf_cut ww zz) zz (cs 0)) ((kf_cb mW mZ (kf_cut ww zz) zz (cs 0)) + ii)) ((kf_cb mW mZ (kf_cut ww zz) zz (cs 0)) + ii + 1)))))), (mz, .inl (gI G, 480, .inl (kz_z (kz_un (kf_dn mZ (kf_cb mW mZ (kf_cut ww zz) zz (cs 0)) ((kf_cb mW mZ (kf_cut ww zz) zz (cs 0)) + ii)) ((kf_cb mW mZ (kf_cut ww zz) zz (cs 0)) + ii) ((kf_dn mZ (kf_cb mW mZ (kf_cut ww zz) zz (cs 0)) ((kf_cb mW mZ (kf_cut ww zz) zz (cs 0)) + ii)) ((kf_cb mW mZ (kf_cut ww zz) zz (cs 0)) + ii + 1)))))), (mv, .inl (gI G, 480, .inl (upd (kf_dn mV (kf_cb mW mZ (kf_cut ww zz) zz (cs 0)) ((kf_cb mW mZ (kf_cut ww zz) zz (cs 0)) + ii)) ((kf_cb mW mZ (kf_cut ww zz) zz (cs 0)) + ii) ((kf_dn mV (kf_cb mW mZ (kf_cut ww zz) zz (cs 0)) ((kf_cb mW mZ (kf_cut ww zz) zz (cs 0)) + ii)) ((kf_cb mW mZ (kf_cut ww zz) zz (cs 0)) + ii + 1))))), (mp, .inl (gZ G, 3, .inl (kz_bo po))), (mh, .inl (gI G, 3, .inl (kz_pw pw)))] := hw
            have hB : va_P G.1 vwCl u H := by rw [← ht]; exact hB
            rw [hw] at hB
            obtain ⟨hP, hD⟩ := kz_join (wc := [(mo, .inr (4, [.int 0, .ref mc, .ref mw, .ref mz, .ref mv, .ref mp, .ref mh])), (mc, .inl (gI G, 4, .inl (kz_z (kz_un cs 0 (cs 0 - 1))))), (mw, .inl (gJ G, 480, .inr (.inl (kf_dn mW (kf_cb mW mZ (kf_cut ww zz) zz (cs 0)) ((kf_cb mW mZ (kf_cut ww zz) zz (cs 0)) + ii))))), (mz, .inl (gI G, 480, .inl (kz_z (kf_dn mZ (kf_cb mW mZ (kf_cut ww zz) zz (cs 0)) ((kf_cb mW mZ (kf_cut ww zz) zz (cs 0)) + ii))))), (mv, .inl (gI G, 480, .inl (kf_dn mV (kf_cb mW mZ (kf_cut ww zz) zz (cs 0)) ((kf_cb mW mZ (kf_cut ww zz) zz (cs 0)) + ii)))), (mp, .inl (gZ G, 3, .inl (kz_bo po))), (mh, .inl (gI G, 3, .inl (kz_pw pw)))]) (w1 := [(mo, .inr (4, [.int 0, .ref mc, .ref mw, .ref mz, .ref mv, .ref mp, .ref mh])), (mc, .inl (gI G, 4, .inl (kz_z (kz_un cs 0 (cs 0 - 1))))), (mw, .inl (gJ G, 480, .inr (.inl (vp_updL (kf_dn mW (kf_cb mW mZ (kf_cut ww zz) zz (cs 0)) ((kf_cb mW mZ (kf_cut ww zz) zz (cs 0)) + ii)) ((kf_cb mW mZ (kf_cut ww zz) zz (cs 0)) + ii) ((kf_dn mW (kf_cb mW mZ (kf_cut ww zz) zz (cs 0)) ((kf_cb mW mZ (kf_cut ww zz) zz (cs 0)) + ii)) ((kf_cb mW mZ (kf_cut ww zz) zz (cs 0)) + ii + 1)))))), (mz, .inl (gI G, 480, .inl (kz_z (kz_un (kf_dn mZ (kf_cb mW mZ (kf_cut ww zz) zz (cs 0)) ((kf_cb mW mZ (kf_cut ww zz) zz (cs 0)) + ii)) ((kf_cb mW mZ (kf_cut ww zz) zz (cs 0)) + ii) ((kf_dn mZ (kf_cb mW mZ (kf_cut ww zz) zz (cs 0)) ((kf_cb mW mZ (kf_cut ww zz) zz (cs 0)) + ii)) ((kf_cb mW mZ (kf_cut ww zz) zz (cs 0)) + ii + 1)))))), (mv, .inl (gI G, 480, .inl (upd (kf_dn mV (kf_cb mW mZ (kf_cut ww zz) zz (cs 0)) ((kf_cb mW mZ (kf_cut ww zz) zz (cs 0)) + ii)) ((kf_cb mW mZ (kf_cut ww zz) zz (cs 0)) + ii) ((kf_dn mV (kf_cb mW mZ (kf_cut ww zz) zz (cs 0)) ((kf_cb mW mZ (kf_cut ww zz) zz (cs 0)) + ii)) ((kf_cb mW mZ (kf_cut ww zz) zz (cs 0)) + ii + 1))))), (mp, .inl (gZ G, 3, .inl (kz_bo po))), (mh, .inl (gI G, 3, .inl (kz_pw pw)))]) hP hD [0, 1, 2, 3, 4, 5, 6] rfl (by decide) rfl hqk9 hB
            have hP : va_P G.1 vwCl [(mo, .inr (4, [.int 0, .ref mc, .ref mw, .ref mz, .ref mv, .ref mp, .ref mh])), (mc, .inl (gI G, 4, .inl (kz_z (kz_un cs 0 (cs 0 - 1))))), (mw, .inl (gJ G, 480, .inr (.inl (vp_updL (kf_dn mW (kf_cb mW mZ (kf_cut ww zz) zz (cs 0)) ((kf_cb mW mZ (kf_cut ww zz) zz (cs 0)) + ii)) ((kf_cb mW mZ (kf_cut ww zz) zz (cs 0)) + ii) ((kf_dn mW (kf_cb mW mZ (kf_cut ww zz) zz (cs 0)) ((kf_cb mW mZ (kf_cut ww zz) zz (cs 0)) + ii)) ((kf_cb mW mZ (kf_cut ww zz) zz (cs 0)) + ii + 1)))))), (mz, .inl (gI G, 480, .inl (kz_z (kz_un (kf_dn mZ (kf_cb mW mZ (kf_cut ww zz) zz (cs 0)) ((kf_cb mW mZ (kf_cut ww zz) zz (cs 0)) + ii)) ((kf_cb mW mZ (kf_cut ww zz) zz (cs 0)) + ii) ((kf_dn mZ (kf_cb mW mZ (kf_cut ww zz) zz (cs 0)) ((kf_cb mW mZ (kf_cut ww zz) zz (cs 0)) + ii)) ((kf_cb mW mZ (kf_cut ww zz) zz (cs 0)) + ii + 1)))))), (mv, .inl (gI G, 480, .inl (upd (kf_dn mV (kf_cb mW mZ (kf_cut ww zz) zz (cs 0)) ((kf_cb mW mZ (kf_cut ww zz) zz (cs 0)) + ii)) ((kf_cb mW mZ (kf_cut ww zz) zz (cs 0)) + ii) ((kf_dn mV (kf_cb mW mZ (kf_cut ww zz) zz (cs 0)) ((kf_cb mW mZ (kf_cut ww zz) zz (cs 0)) + ii)) ((kf_cb mW mZ (kf_cut ww zz) zz (cs 0)) + ii + 1))))), (mp, .inl (gZ G, 3, .inl (kz_bo po))), (mh, .inl (gI G, 3, .inl (kz_pw pw)))] H := hP
            have hD : va_D A [(mo, .inr (4, [.int 0, .ref mc, .ref mw, .ref mz, .ref mv, .ref mp, .ref mh])), (mc, .inl (gI G, 4, .inl (kz_z (kz_un cs 0 (cs 0 - 1))))), (mw, .inl (gJ G, 480, .inr (.inl (vp_updL (kf_dn mW (kf_cb mW mZ (kf_cut ww zz) zz (cs 0)) ((kf_cb mW mZ (kf_cut ww zz) zz (cs 0)) + ii)) ((kf_cb mW mZ (kf_cut ww zz) zz (cs 0)) + ii) ((kf_dn mW (kf_cb mW mZ (kf_cut ww zz) zz (cs 0)) ((kf_cb mW mZ (kf_cut ww zz) zz (cs 0)) + ii)) ((kf_cb mW mZ (kf_cut ww zz) zz (cs 0)) + ii + 1)))))), (mz, .inl (gI G, 480, .inl (kz_z (kz_un (kf_dn mZ (kf_cb mW mZ (kf_cut ww zz) zz (cs 0)) ((kf_cb mW mZ (kf_cut ww zz) zz (cs 0)) + ii)) ((kf_cb mW mZ (kf_cut ww zz) zz (cs 0)) + ii) ((kf_dn mZ (kf_cb mW mZ (kf_cut ww zz) zz (cs 0)) ((kf_cb mW mZ (kf_cut ww zz) zz (cs 0)) + ii)) ((kf_cb mW mZ (kf_cut ww zz) zz (cs 0)) + ii + 1)))))), (mv, .inl (gI G, 480, .inl (upd (kf_dn mV (kf_cb mW mZ (kf_cut ww zz) zz (cs 0)) ((kf_cb mW mZ (kf_cut ww zz) zz (cs 0)) + ii)) ((kf_cb mW mZ (kf_cut ww zz) zz (cs 0)) + ii) ((kf_dn mV (kf_cb mW mZ (kf_cut ww zz) zz (cs 0)) ((kf_cb mW mZ (kf_cut ww zz) zz (cs 0)) + ii)) ((kf_cb mW mZ (kf_cut ww zz) zz (cs 0)) + ii + 1))))), (mp, .inl (gZ G, 3, .inl (kz_bo po))), (mh, .inl (gI G, 3, .inl (kz_pw pw)))] := hD
            refine lv_iinc (v := nI ((kf_cb mW mZ (kf_cut ww zz) zz (cs 0)) + (ii + 1))) (lv' := [(5, .int (nI ((kf_cb mW mZ (kf_cut ww zz) zz (cs 0)) + (ii + 1)))), (0, .ref mo), (1, .long ww), (3, .int (nI zz)), (4, .int (nI (kf_cb mW mZ (kf_cut ww zz) zz (cs 0))))]) hx hb dX4_remove_83 hl (k := 0) rfl (nI_1 ((kf_cb mW mZ (kf_cut ww zz) zz (cs 0)) + ii)) (by decide) rfl (fun ls hl => ?_)
            refine lv_goto (tgt := 62) hx hb dX4_remove_86 (by decide) ?_
            have e1 := kf_dn_L mW (k := (kf_cb mW mZ (kf_cut ww zz) zz (cs 0))) (i := (kf_cb mW mZ (kf_cut ww zz) zz (cs 0)) + ii) (by omega)
            have e2 := kf_dn_N mZ (k := (kf_cb mW mZ (kf_cut ww zz) zz (cs 0))) (i := (kf_cb mW mZ (kf_cut ww zz) zz (cs 0)) + ii) (by omega)
            have e3 := kf_dn_I mV (k := (kf_cb mW mZ (kf_cut ww zz) zz (cs 0))) (i := (kf_cb mW mZ (kf_cut ww zz) zz (cs 0)) + ii) (by omega)
            exact ih H locs ls (by omega) (lv_sub hl [0, 1, 2, 3, 4] rfl) (by show va_P G.1 vwCl [(mo, .inr (4, [.int 0, .ref mc, .ref mw, .ref mz, .ref mv, .ref mp, .ref mh])), (mc, .inl (gI G, 4, .inl (kz_z (kz_un cs 0 (cs 0 - 1))))), (mw, .inl (gJ G, 480, .inr (.inl (kf_dn mW (kf_cb mW mZ (kf_cut ww zz) zz (cs 0)) ((kf_cb mW mZ (kf_cut ww zz) zz (cs 0)) + ii + 1))))), (mz, .inl (gI G, 480, .inl (kz_z (kf_dn mZ (kf_cb mW mZ (kf_cut ww zz) zz (cs 0)) ((kf_cb mW mZ (kf_cut ww zz) zz (cs 0)) + ii + 1))))), (mv, .inl (gI G, 480, .inl (kf_dn mV (kf_cb mW mZ (kf_cut ww zz) zz (cs 0)) ((kf_cb mW mZ (kf_cut ww zz) zz (cs 0)) + ii + 1)))), (mp, .inl (gZ G, 3, .inl (kz_bo po))), (mh, .inl (gI G, 3, .inl (kz_pw pw)))] H; rw [e1, e2, e3]; exact hP) (by show va_D A [(mo, .inr (4, [.int 0, .ref mc, .ref mw, .ref mz, .ref mv, .ref mp, .ref mh])), (mc, .inl (gI G, 4, .inl (kz_z (kz_un cs 0 (cs 0 - 1))))), (mw, .inl (gJ G, 480, .inr (.inl (kf_dn mW (kf_cb mW mZ (kf_cut ww zz) zz (cs 0)) ((kf_cb mW mZ (kf_cut ww zz) zz (cs 0)) + ii + 1))))), (mz, .inl (gI G, 480, .inl (kz_z (kf_dn mZ (kf_cb mW mZ (kf_cut ww zz) zz (cs 0)) ((kf_cb mW mZ (kf_cut ww zz) zz (cs 0)) + ii + 1))))), (mv, .inl (gI G, 480, .inl (kf_dn mV (kf_cb mW mZ (kf_cut ww zz) zz (cs 0)) ((kf_cb mW mZ (kf_cut ww zz) zz (cs 0)) + ii + 1)))), (mp, .inl (gZ G, 3, .inl (kz_bo po))), (mh, .inl (gI G, 3, .inl (kz_pw pw)))]; rw [e1, e2, e3]; exact hD) hS
        · have kc_3 := kf_if0 c_3
          refine lv_iconst (v := 0) hx hb dX4_remove_46 (by decide) ?_
          exact W.zret (v := 0) hx hb hr rfl (fun t ht hW => ⟨⟨_, ([(mo, .inr (4, [.int 0, .ref mc, .ref mw, .ref mz, .ref mv, .ref mp, .ref mh])), (mc, .inl (gI G, 4, .inl (kz_z cs))), (mw, .inl (gJ G, 480, .inr (.inl mW))), (mz, .inl (gI G, 480, .inl (kz_z mZ))), (mv, .inl (gI G, 480, .inl mV)), (mp, .inl (gZ G, 3, .inl (kz_bo po))), (mh, .inl (gI G, 3, .inl (kz_pw pw)))] : va_W), rfl, (Or.inr (Or.inr ⟨zz, hzz, rfl, kc_3, rfl, rfl⟩)), by rw [← ht] at hP; exact hP⟩, hS.F ht⟩) hS.2.2 dX4_remove_47
      · exact absurd (nI_le (b := 8) hzz (by decide)) c_2
  · have hno := hno
    refine lv_aload_n hx hb dX4_remove_0 rfl (lv_at hl 0 rfl) ?_
    refine lv_iconst (v := 0) hx hb dX4_remove_1 (by decide) ?_
    refine va_put (D := G.1) (ci := 4) (v := .int 0) (ty := .int) (C := RX4) (T := TX4) (N := 7) hx hb hts hinX4 tyX4 tyX4_ok nmX4 hown hK.1 hP hD hS 0 rfl rfl 0 (by decide) (hts (.fieldLink RX4 30 "ForkStoreModel" "thrown" "I") (by decide +kernel)) (fun _ h9 => h9) rfl (by decide +kernel) rfl rfl (Nat.le_of_ble_eq_true rfl) dX4_remove_2 (fun H locs hP hD hS => ?_)
    have hP : va_P G.1 vwCl [(mo, .inr (4, [.int 0, .ref mc, .ref mw, .ref mz, .ref mv, .ref mp, .ref mh])), (mc, .inl (gI G, 4, .inl (kz_z cs))), (mw, .inl (gJ G, 480, .inr (.inl mW))), (mz, .inl (gI G, 480, .inl (kz_z mZ))), (mv, .inl (gI G, 480, .inl mV)), (mp, .inl (gZ G, 3, .inl (kz_bo po))), (mh, .inl (gI G, 3, .inl (kz_pw pw)))] H := hP
    have hD : va_D A [(mo, .inr (4, [.int 0, .ref mc, .ref mw, .ref mz, .ref mv, .ref mp, .ref mh])), (mc, .inl (gI G, 4, .inl (kz_z cs))), (mw, .inl (gJ G, 480, .inr (.inl mW))), (mz, .inl (gI G, 480, .inl (kz_z mZ))), (mv, .inl (gI G, 480, .inl mV)), (mp, .inl (gZ G, 3, .inl (kz_bo po))), (mh, .inl (gI G, 3, .inl (kz_pw pw)))] := hD
    refine lv_iload_n hx hb dX4_remove_5 rfl (lv_at hl 2 rfl) ?_
    refine lv_if_lt (tgt := 15) hx hb dX4_remove_6 (by decide) (fun c_5 => ?_) (fun c_5 => ?_)
    · refine lv_iconst (v := 0) hx hb dX4_remove_15 (by decide) ?_
      exact W.zret (v := 0) hx hb hr rfl (fun t ht hW => ⟨⟨_, ([(mo, .inr (4, [.int 0, .ref mc, .ref mw, .ref mz, .ref mv, .ref mp, .ref mh])), (mc, .inl (gI G, 4, .inl (kz_z cs))), (mw, .inl (gJ G, 480, .inr (.inl mW))), (mz, .inl (gI G, 480, .inl (kz_z mZ))), (mv, .inl (gI G, 480, .inl mV)), (mp, .inl (gZ G, 3, .inl (kz_bo po))), (mh, .inl (gI G, 3, .inl (kz_pw pw)))] : va_W), rfl, (Or.inl ⟨hno, rfl, rfl⟩), by rw [← ht] at hP; exact hP⟩, hS.F ht⟩) hS.2.2 dX4_remove_16
    · refine lv_iload_n hx hb dX4_remove_9 rfl (lv_at hl 2 rfl) ?_
      refine lv_bipush (v := 8) hx hb dX4_remove_10 (by decide) ?_
      refine lv_icmp_le (tgt := 17) hx hb dX4_remove_12 (by decide) (fun c_6 => ?_) (fun c_6 => ?_)
      · exact absurd ⟨Int32.not_lt.mp c_5, c_6⟩ hno
      · refine lv_iconst (v := 0) hx hb dX4_remove_15 (by decide) ?_
        exact W.zret (v := 0) hx hb hr rfl (fun t ht hW => ⟨⟨_, ([(mo, .inr (4, [.int 0, .ref mc, .ref mw, .ref mz, .ref mv, .ref mp, .ref mh])), (mc, .inl (gI G, 4, .inl (kz_z cs))), (mw, .inl (gJ G, 480, .inr (.inl mW))), (mz, .inl (gI G, 480, .inl (kz_z mZ))), (mv, .inl (gI G, 480, .inl mV)), (mp, .inl (gZ G, 3, .inl (kz_bo po))), (mh, .inl (gI G, 3, .inl (kz_pw pw)))] : va_W), rfl, (Or.inl ⟨hno, rfl, rfl⟩), by rw [← ht] at hP; exact hP⟩, hS.F ht⟩) hS.2.2 dX4_remove_16
end
