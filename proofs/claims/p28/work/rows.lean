section
-- ===== PART A: goes FIRST, ahead of the names: the tables' words, and 'selects' of the private methods out of them =====
/-- a private method of a class that the tables say can be made, by its rows of tables_1 -/
def lw_okq (q : MethodName × Nat) : Prop := (q.1.cls ≠ "java/lang/invoke/MethodHandle" ∧ q.1.cls ≠ "java/lang/invoke/VarHandle") ∧ Cond.instantiable q.1.cls q.2 ∈ tables_1 ∧ Cond.privateMethod q.1 ∈ tables_1 ∧ Cond.instanceMethod q.1 ∈ tables_1
theorem lw_p0 : lw_okq (⟨"KeyGraves$State", "reach", "(II)V"⟩, 10) := ⟨⟨by decide +kernel, by decide +kernel⟩, List.mem_of_getElem? (i := 18) (by decide +kernel), List.mem_of_getElem? (i := 194) (by decide +kernel), List.mem_of_getElem? (i := 195) (by decide +kernel)⟩
theorem lw_p1 : lw_okq (⟨"KeyGraves$State", "stampOf", "(II)I"⟩, 10) := ⟨⟨by decide +kernel, by decide +kernel⟩, List.mem_of_getElem? (i := 18) (by decide +kernel), List.mem_of_getElem? (i := 198) (by decide +kernel), List.mem_of_getElem? (i := 199) (by decide +kernel)⟩
theorem lw_p2 : lw_okq (⟨"KeyGraves", "record", "()V"⟩, 6) := ⟨⟨by decide +kernel, by decide +kernel⟩, List.mem_of_getElem? (i := 10) (by decide +kernel), List.mem_of_getElem? (i := 209) (by decide +kernel), List.mem_of_getElem? (i := 210) (by decide +kernel)⟩
theorem lw_p3 : lw_okq (⟨"KeyGraves$State", "learn", "(III)V"⟩, 10) := ⟨⟨by decide +kernel, by decide +kernel⟩, List.mem_of_getElem? (i := 18) (by decide +kernel), List.mem_of_getElem? (i := 239) (by decide +kernel), List.mem_of_getElem? (i := 240) (by decide +kernel)⟩
theorem lw_p4 : lw_okq (⟨"KeyGraves$State", "ticksSince", "(II)I"⟩, 10) := ⟨⟨by decide +kernel, by decide +kernel⟩, List.mem_of_getElem? (i := 18) (by decide +kernel), List.mem_of_getElem? (i := 302) (by decide +kernel), List.mem_of_getElem? (i := 303) (by decide +kernel)⟩
theorem lw_p5 : lw_okq (⟨"KeyGraves$State", "isClearable", "(II)Z"⟩, 10) := ⟨⟨by decide +kernel, by decide +kernel⟩, List.mem_of_getElem? (i := 18) (by decide +kernel), List.mem_of_getElem? (i := 310) (by decide +kernel), List.mem_of_getElem? (i := 311) (by decide +kernel)⟩
theorem lw_p6 : lw_okq (⟨"KeyGraves$State", "isRepairedSince", "(II)Z"⟩, 10) := ⟨⟨by decide +kernel, by decide +kernel⟩, List.mem_of_getElem? (i := 18) (by decide +kernel), List.mem_of_getElem? (i := 314) (by decide +kernel), List.mem_of_getElem? (i := 315) (by decide +kernel)⟩
theorem lw_p7 : lw_okq (⟨"KeyGraves$State", "isUnsettledGrave", "(II)Z"⟩, 10) := ⟨⟨by decide +kernel, by decide +kernel⟩, List.mem_of_getElem? (i := 18) (by decide +kernel), List.mem_of_getElem? (i := 353) (by decide +kernel), List.mem_of_getElem? (i := 354) (by decide +kernel)⟩
theorem lw_p8 : lw_okq (⟨"KeyGraves$State", "lowerNodeKnowsSame", "(II)Z"⟩, 10) := ⟨⟨by decide +kernel, by decide +kernel⟩, List.mem_of_getElem? (i := 18) (by decide +kernel), List.mem_of_getElem? (i := 358) (by decide +kernel), List.mem_of_getElem? (i := 359) (by decide +kernel)⟩
theorem lw_p9 : lw_okq (⟨"KeyGraves$State", "logPair", "(III)V"⟩, 10) := ⟨⟨by decide +kernel, by decide +kernel⟩, List.mem_of_getElem? (i := 18) (by decide +kernel), List.mem_of_getElem? (i := 441) (by decide +kernel), List.mem_of_getElem? (i := 442) (by decide +kernel)⟩
def lw_privs_1 : List (MethodName × Nat) := [(⟨"KeyGraves$State", "reach", "(II)V"⟩, 10), (⟨"KeyGraves$State", "stampOf", "(II)I"⟩, 10), (⟨"KeyGraves", "record", "()V"⟩, 6), (⟨"KeyGraves$State", "learn", "(III)V"⟩, 10), (⟨"KeyGraves$State", "ticksSince", "(II)I"⟩, 10), (⟨"KeyGraves$State", "isClearable", "(II)Z"⟩, 10), (⟨"KeyGraves$State", "isRepairedSince", "(II)Z"⟩, 10), (⟨"KeyGraves$State", "isUnsettledGrave", "(II)Z"⟩, 10), (⟨"KeyGraves$State", "lowerNodeKnowsSame", "(II)Z"⟩, 10), (⟨"KeyGraves$State", "logPair", "(III)V"⟩, 10)]
theorem lw_r1 : ∀ q ∈ lw_privs_1, lw_okq q := List.forall_mem_cons.mpr ⟨lw_p0, List.forall_mem_cons.mpr ⟨lw_p1, List.forall_mem_cons.mpr ⟨lw_p2, List.forall_mem_cons.mpr ⟨lw_p3, List.forall_mem_cons.mpr ⟨lw_p4, List.forall_mem_cons.mpr ⟨lw_p5, List.forall_mem_cons.mpr ⟨lw_p6, List.forall_mem_cons.mpr ⟨lw_p7, List.forall_mem_cons.mpr ⟨lw_p8, List.forall_mem_cons.mpr ⟨lw_p9, fun _ h => absurd h List.not_mem_nil⟩⟩⟩⟩⟩⟩⟩⟩⟩⟩
def lw_privs : List (MethodName × Nat) := lw_privs_1
def lw_tbl : List Cond := k2_sels lw_privs ++ tables_1
theorem lw_privs_ok : ∀ q ∈ lw_privs, lw_okq q := lw_r1
def RX0 : String := "KeyGraves$EventLog"
def TX0 : u_T := fun k => match k with
  | 0 => ("KeyGraves$EventLog", "size", "I", false)
  | 1 => ("KeyGraves$EventLog", "newest", "I", false)
  | 2 => ("KeyGraves$EventLog", "counts", "[I", true)
  | 3 => ("KeyGraves$EventLog", "kinds", "[I", true)
  | 4 => ("KeyGraves$EventLog", "ticks", "[I", true)
  | 5 => ("KeyGraves$EventLog", "firsts", "[I", true)
  | _ => ("KeyGraves$EventLog", "seconds", "[I", true)
def tyX0 : Nat → FieldType := fun k => match k with
  | 0 => .int
  | 1 => .int
  | 2 => .array .int
  | 3 => .array .int
  | 4 => .array .int
  | 5 => .array .int
  | _ => .array .int
abbrev wsX00 : List Cond := u_ws RX0 TX0 7
theorem nmX0 : ∀ a, a < 7 → ∀ b, b < 7 → a ≠ b → (TX0 a).2.1 ≠ (TX0 b).2.1 := by decide +kernel
theorem tyX0_ok : ∀ k, k < 7 → parseFieldDescriptor (TX0 k).2.2.1 = some (tyX0 k) := by decide +kernel
abbrev cX0_init : ByteArray := prog_2_method_1_code
def yX0_init : MethodName := ⟨RX0, "<init>", "()V"⟩
abbrev cX0_copyFrom : ByteArray := prog_2_method_2_code
def yX0_copyFrom : MethodName := ⟨RX0, "copyFrom", "(LKeyGraves$EventLog;)V"⟩
abbrev cX0_add : ByteArray := prog_2_method_3_code
def yX0_add : MethodName := ⟨RX0, "add", "(IIII)V"⟩
def RX1 : String := "KeyGraves$Facts"
def TX1 : u_T := fun k => match k with
  | 0 => ("KeyGraves$Facts", "stamps", "[I", true)
  | 1 => ("KeyGraves$Facts", "contents", "[I", true)
  | 2 => ("KeyGraves$Facts", "ticks", "[I", true)
  | _ => ("KeyGraves$Facts", "learned", "[I", true)
def tyX1 : Nat → FieldType := fun k => match k with
  | 0 => .array .int
  | 1 => .array .int
  | 2 => .array .int
  | _ => .array .int
abbrev wsX10 : List Cond := u_ws RX1 TX1 4
theorem nmX1 : ∀ a, a < 4 → ∀ b, b < 4 → a ≠ b → (TX1 a).2.1 ≠ (TX1 b).2.1 := by decide +kernel
theorem tyX1_ok : ∀ k, k < 4 → parseFieldDescriptor (TX1 k).2.2.1 = some (tyX1 k) := by decide +kernel
abbrev cX1_init : ByteArray := prog_3_method_1_code
def yX1_init : MethodName := ⟨RX1, "<init>", "()V"⟩
abbrev cX1_copyFrom : ByteArray := prog_3_method_2_code
def yX1_copyFrom : MethodName := ⟨RX1, "copyFrom", "(LKeyGraves$Facts;)V"⟩
abbrev cX1_kindAt : ByteArray := prog_3_method_3_code
def yX1_kindAt : MethodName := ⟨RX1, "kindAt", "(I)I"⟩
abbrev cX1_valueAt : ByteArray := prog_3_method_4_code
def yX1_valueAt : MethodName := ⟨RX1, "valueAt", "(I)I"⟩
abbrev cX1_put : ByteArray := prog_3_method_5_code
def yX1_put : MethodName := ⟨RX1, "put", "(IIII)V"⟩
abbrev cX1_take : ByteArray := prog_3_method_6_code
def yX1_take : MethodName := ⟨RX1, "take", "(III)V"⟩
abbrev cX1_forget : ByteArray := prog_3_method_7_code
def yX1_forget : MethodName := ⟨RX1, "forget", "(I)V"⟩
def RX2 : String := "KeyGraves$Plan"
def TX2 : u_T := fun k => match k with
  | 0 => ("KeyGraves$Plan", "size", "I", false)
  | 1 => ("KeyGraves$Plan", "ones", "[I", true)
  | 2 => ("KeyGraves$Plan", "others", "[I", true)
  | _ => ("KeyGraves$Plan", "ticks", "[I", true)
def tyX2 : Nat → FieldType := fun k => match k with
  | 0 => .int
  | 1 => .array .int
  | 2 => .array .int
  | _ => .array .int
abbrev wsX20 : List Cond := u_ws RX2 TX2 4
theorem nmX2 : ∀ a, a < 4 → ∀ b, b < 4 → a ≠ b → (TX2 a).2.1 ≠ (TX2 b).2.1 := by decide +kernel
theorem tyX2_ok : ∀ k, k < 4 → parseFieldDescriptor (TX2 k).2.2.1 = some (tyX2 k) := by decide +kernel
abbrev cX2_init : ByteArray := prog_4_method_1_code
def yX2_init : MethodName := ⟨RX2, "<init>", "()V"⟩
abbrev cX2_copyFrom : ByteArray := prog_4_method_2_code
def yX2_copyFrom : MethodName := ⟨RX2, "copyFrom", "(LKeyGraves$Plan;)V"⟩
abbrev cX2_add : ByteArray := prog_4_method_3_code
def yX2_add : MethodName := ⟨RX2, "add", "(III)V"⟩
def RX3 : String := "KeyGraves$PlanText"
def TX3 : u_T := fun k => match k with
  | 0 => ("KeyGraves$PlanText", "signs", "[C", true)
  | _ => ("KeyGraves$PlanText", "length", "I", false)
def tyX3 : Nat → FieldType := fun k => match k with
  | 0 => .array .char
  | _ => .int
abbrev wsX30 : List Cond := u_ws RX3 TX3 2
theorem nmX3 : ∀ a, a < 2 → ∀ b, b < 2 → a ≠ b → (TX3 a).2.1 ≠ (TX3 b).2.1 := by decide +kernel
theorem tyX3_ok : ∀ k, k < 2 → parseFieldDescriptor (TX3 k).2.2.1 = some (tyX3 k) := by decide +kernel
abbrev cX3_init : ByteArray := prog_5_method_1_code
def yX3_init : MethodName := ⟨RX3, "<init>", "()V"⟩
def RX4 : String := "KeyGraves$State"
def TX4 : u_T := fun k => match k with
  | 0 => ("KeyGraves$State", "tick", "I", false)
  | 1 => ("KeyGraves$State", "stampsGiven", "I", false)
  | 2 => ("KeyGraves$State", "settings", "[I", true)
  | 3 => ("KeyGraves$State", "up", "[Z", true)
  | 4 => ("KeyGraves$State", "facts", "LKeyGraves$Facts;", true)
  | 5 => ("KeyGraves$State", "lastRepairs", "[I", true)
  | 6 => ("KeyGraves$State", "plan", "LKeyGraves$Plan;", true)
  | 7 => ("KeyGraves$State", "log", "LKeyGraves$EventLog;", true)
  | 8 => ("KeyGraves$State", "reached", "[I", true)
  | _ => ("KeyGraves$State", "reachedCount", "I", false)
def tyX4 : Nat → FieldType := fun k => match k with
  | 0 => .int
  | 1 => .int
  | 2 => .array .int
  | 3 => .array .boolean
  | 4 => .object "KeyGraves$Facts"
  | 5 => .array .int
  | 6 => .object "KeyGraves$Plan"
  | 7 => .object "KeyGraves$EventLog"
  | 8 => .array .int
  | _ => .int
abbrev wsX40 : List Cond := u_ws RX4 TX4 10
theorem nmX4 : ∀ a, a < 10 → ∀ b, b < 10 → a ≠ b → (TX4 a).2.1 ≠ (TX4 b).2.1 := by decide +kernel
theorem tyX4_ok : ∀ k, k < 10 → parseFieldDescriptor (TX4 k).2.2.1 = some (tyX4 k) := by decide +kernel
abbrev cX4_init : ByteArray := prog_6_method_1_code
def yX4_init : MethodName := ⟨RX4, "<init>", "()V"⟩
abbrev cX4_copyFrom : ByteArray := prog_6_method_2_code
def yX4_copyFrom : MethodName := ⟨RX4, "copyFrom", "(LKeyGraves$State;)V"⟩
abbrev cX4_reach : ByteArray := prog_6_method_3_code
def yX4_reach : MethodName := ⟨RX4, "reach", "(II)V"⟩
abbrev cX4_spread : ByteArray := prog_6_method_4_code
def yX4_spread : MethodName := ⟨RX4, "spread", "(III)I"⟩
abbrev cX4_newestReached : ByteArray := prog_6_method_5_code
def yX4_newestReached : MethodName := ⟨RX4, "newestReached", "(II)I"⟩
abbrev cX4_reachedDiffer : ByteArray := prog_6_method_6_code
def yX4_reachedDiffer : MethodName := ⟨RX4, "reachedDiffer", "(II)Z"⟩
abbrev cX4_mend : ByteArray := prog_6_method_7_code
def yX4_mend : MethodName := ⟨RX4, "mend", "(II)V"⟩
abbrev cX4_stampOf : ByteArray := prog_6_method_8_code
def yX4_stampOf : MethodName := ⟨RX4, "stampOf", "(II)I"⟩
abbrev cX4_learn : ByteArray := prog_6_method_9_code
def yX4_learn : MethodName := ⟨RX4, "learn", "(III)V"⟩
abbrev cX4_join : ByteArray := prog_6_method_10_code
def yX4_join : MethodName := ⟨RX4, "join", "(II)I"⟩
abbrev cX4_logPair : ByteArray := prog_6_method_11_code
def yX4_logPair : MethodName := ⟨RX4, "logPair", "(III)V"⟩
abbrev cX4_keysKnownOtherwise : ByteArray := prog_6_method_12_code
def yX4_keysKnownOtherwise : MethodName := ⟨RX4, "keysKnownOtherwise", "(II)I"⟩
abbrev cX4_passTick : ByteArray := prog_6_method_13_code
def yX4_passTick : MethodName := ⟨RX4, "passTick", "()I"⟩
abbrev cX4_slowestPair : ByteArray := prog_6_method_14_code
def yX4_slowestPair : MethodName := ⟨RX4, "slowestPair", "()I"⟩
abbrev cX4_isGrave : ByteArray := prog_6_method_15_code
def yX4_isGrave : MethodName := ⟨RX4, "isGrave", "(II)Z"⟩
abbrev cX4_ticksSince : ByteArray := prog_6_method_16_code
def yX4_ticksSince : MethodName := ⟨RX4, "ticksSince", "(II)I"⟩
abbrev cX4_isRipe : ByteArray := prog_6_method_17_code
def yX4_isRipe : MethodName := ⟨RX4, "isRipe", "(II)Z"⟩
abbrev cX4_isClearable : ByteArray := prog_6_method_18_code
def yX4_isClearable : MethodName := ⟨RX4, "isClearable", "(II)Z"⟩
abbrev cX4_isRepairedSince : ByteArray := prog_6_method_19_code
def yX4_isRepairedSince : MethodName := ⟨RX4, "isRepairedSince", "(II)Z"⟩
abbrev cX4_clearableGraves : ByteArray := prog_6_method_20_code
def yX4_clearableGraves : MethodName := ⟨RX4, "clearableGraves", "(I)I"⟩
abbrev cX4_clearGraves : ByteArray := prog_6_method_21_code
def yX4_clearGraves : MethodName := ⟨RX4, "clearGraves", "(I)I"⟩
abbrev cX4_isSettledGrave : ByteArray := prog_6_method_22_code
def yX4_isSettledGrave : MethodName := ⟨RX4, "isSettledGrave", "(II)Z"⟩
abbrev cX4_isUnsettledGrave : ByteArray := prog_6_method_23_code
def yX4_isUnsettledGrave : MethodName := ⟨RX4, "isUnsettledGrave", "(II)Z"⟩
abbrev cX4_gravesNotSettled : ByteArray := prog_6_method_24_code
def yX4_gravesNotSettled : MethodName := ⟨RX4, "gravesNotSettled", "()I"⟩
abbrev cX4_lowerNodeKnowsSame : ByteArray := prog_6_method_25_code
def yX4_lowerNodeKnowsSame : MethodName := ⟨RX4, "lowerNodeKnowsSame", "(II)Z"⟩
abbrev cX4_safeGrace : ByteArray := prog_6_method_26_code
def yX4_safeGrace : MethodName := ⟨RX4, "safeGrace", "()I"⟩
abbrev cX4_isHaunted : ByteArray := prog_6_method_27_code
def yX4_isHaunted : MethodName := ⟨RX4, "isHaunted", "(II)Z"⟩
abbrev cX4_nodesUp : ByteArray := prog_6_method_28_code
def yX4_nodesUp : MethodName := ⟨RX4, "nodesUp", "()I"⟩
abbrev cX4_nodesWithTruth : ByteArray := prog_6_method_29_code
def yX4_nodesWithTruth : MethodName := ⟨RX4, "nodesWithTruth", "(I)I"⟩
abbrev cX4_nodesHauntedBy : ByteArray := prog_6_method_30_code
def yX4_nodesHauntedBy : MethodName := ⟨RX4, "nodesHauntedBy", "(I)I"⟩
abbrev cX4_keysThatHaunt : ByteArray := prog_6_method_31_code
def yX4_keysThatHaunt : MethodName := ⟨RX4, "keysThatHaunt", "(I)I"⟩
abbrev cX4_hauntingKeys : ByteArray := prog_6_method_32_code
def yX4_hauntingKeys : MethodName := ⟨RX4, "hauntingKeys", "()I"⟩
abbrev cX4_keysOfKind : ByteArray := prog_6_method_33_code
def yX4_keysOfKind : MethodName := ⟨RX4, "keysOfKind", "(II)I"⟩
abbrev cX4_ripeGraves : ByteArray := prog_6_method_34_code
def yX4_ripeGraves : MethodName := ⟨RX4, "ripeGraves", "(I)I"⟩
abbrev cX4_gravesOfAllNodes : ByteArray := prog_6_method_35_code
def yX4_gravesOfAllNodes : MethodName := ⟨RX4, "gravesOfAllNodes", "()I"⟩
def RX5 : String := "KeyGraves"
def TX5 : u_T := fun k => match k with
  | 0 => ("KeyGraves", "state", "LKeyGraves$State;", true)
  | 1 => ("KeyGraves", "history", "[LKeyGraves$State;", true)
  | 2 => ("KeyGraves", "historySize", "I", false)
  | 3 => ("KeyGraves", "snapshot", "LKeyGraves$State;", true)
  | 4 => ("KeyGraves", "snapshotTaken", "Z", false)
  | _ => ("KeyGraves", "text", "LKeyGraves$PlanText;", true)
def tyX5 : Nat → FieldType := fun k => match k with
  | 0 => .object "KeyGraves$State"
  | 1 => .array (.object "KeyGraves$State")
  | 2 => .int
  | 3 => .object "KeyGraves$State"
  | 4 => .boolean
  | _ => .object "KeyGraves$PlanText"
abbrev wsX50 : List Cond := u_ws RX5 TX5 6
theorem nmX5 : ∀ a, a < 6 → ∀ b, b < 6 → a ≠ b → (TX5 a).2.1 ≠ (TX5 b).2.1 := by decide +kernel
theorem tyX5_ok : ∀ k, k < 6 → parseFieldDescriptor (TX5 k).2.2.1 = some (tyX5 k) := by decide +kernel
abbrev cX5_init : ByteArray := prog_1_method_1_code
def yX5_init : MethodName := ⟨RX5, "<init>", "()V"⟩
abbrev cX5_set : ByteArray := prog_1_method_2_code
def yX5_set : MethodName := ⟨RX5, "set", "(II)I"⟩
abbrev cX5_setUp : ByteArray := prog_1_method_3_code
def yX5_setUp : MethodName := ⟨RX5, "setUp", "(IZ)I"⟩
abbrev cX5_write : ByteArray := prog_1_method_4_code
def yX5_write : MethodName := ⟨RX5, "write", "(III)I"⟩
abbrev cX5_delete : ByteArray := prog_1_method_5_code
def yX5_delete : MethodName := ⟨RX5, "delete", "(II)I"⟩
abbrev cX5_read : ByteArray := prog_1_method_6_code
def yX5_read : MethodName := ⟨RX5, "read", "(II)I"⟩
abbrev cX5_repair : ByteArray := prog_1_method_7_code
def yX5_repair : MethodName := ⟨RX5, "repair", "(II)I"⟩
abbrev cX5_clear : ByteArray := prog_1_method_8_code
def yX5_clear : MethodName := ⟨RX5, "clear", "(I)I"⟩
abbrev cX5_plan : ByteArray := prog_1_method_9_code
def yX5_plan : MethodName := ⟨RX5, "plan", "(III)I"⟩
abbrev cX5_pass : ByteArray := prog_1_method_11_code
def yX5_pass : MethodName := ⟨RX5, "pass", "(I)I"⟩
abbrev cX5_known : ByteArray := prog_1_method_17_code
def yX5_known : MethodName := ⟨RX5, "known", "(III)I"⟩
abbrev cX5_truth : ByteArray := prog_1_method_18_code
def yX5_truth : MethodName := ⟨RX5, "truth", "(II)I"⟩
abbrev cX5_node : ByteArray := prog_1_method_19_code
def yX5_node : MethodName := ⟨RX5, "node", "(II)I"⟩
abbrev cX5_pair : ByteArray := prog_1_method_20_code
def yX5_pair : MethodName := ⟨RX5, "pair", "(III)I"⟩
abbrev cX5_slowest : ByteArray := prog_1_method_21_code
def yX5_slowest : MethodName := ⟨RX5, "slowest", "()I"⟩
abbrev cX5_graceNeeded : ByteArray := prog_1_method_22_code
def yX5_graceNeeded : MethodName := ⟨RX5, "graceNeeded", "()I"⟩
abbrev cX5_count : ByteArray := prog_1_method_25_code
def yX5_count : MethodName := ⟨RX5, "count", "(I)I"⟩
abbrev cX5_setting : ByteArray := prog_1_method_26_code
def yX5_setting : MethodName := ⟨RX5, "setting", "(I)I"⟩
abbrev cX5_isNode : ByteArray := prog_1_method_27_code
def yX5_isNode : MethodName := ⟨RX5, "isNode", "(I)Z"⟩
abbrev cX5_isKey : ByteArray := prog_1_method_28_code
def yX5_isKey : MethodName := ⟨RX5, "isKey", "(I)Z"⟩
abbrev cX5_isSetting : ByteArray := prog_1_method_29_code
def yX5_isSetting : MethodName := ⟨RX5, "isSetting", "(I)Z"⟩
abbrev cX5_place : ByteArray := prog_1_method_30_code
def yX5_place : MethodName := ⟨RX5, "place", "(II)I"⟩
abbrev cX5_pairPlace : ByteArray := prog_1_method_31_code
def yX5_pairPlace : MethodName := ⟨RX5, "pairPlace", "(II)I"⟩
abbrev cX5_record : ByteArray := prog_1_method_32_code
def yX5_record : MethodName := ⟨RX5, "record", "()V"⟩
def RX6 : String := "KeyGravesModel"
def TX6 : u_T := fun k => match k with
  | _ => ("", "", "", false)
def tyX6 : Nat → FieldType := fun k => match k with
  | _ => .int
abbrev wsX60 : List Cond := u_ws RX6 TX6 0
theorem nmX6 : ∀ a, a < 0 → ∀ b, b < 0 → a ≠ b → (TX6 a).2.1 ≠ (TX6 b).2.1 := by decide +kernel
theorem tyX6_ok : ∀ k, k < 0 → parseFieldDescriptor (TX6 k).2.2.1 = some (tyX6 k) := by decide +kernel
def RJ9 : String := "java/lang/Math"
def TJ9 : u_T := fun k => match k with
  | _ => ("", "", "", false)
def tyJ9 : Nat → FieldType := fun k => match k with
  | _ => .int
abbrev wsJ90 : List Cond := u_ws RJ9 TJ9 0
theorem nmJ9 : ∀ a, a < 0 → ∀ b, b < 0 → a ≠ b → (TJ9 a).2.1 ≠ (TJ9 b).2.1 := by decide +kernel
theorem tyJ9_ok : ∀ k, k < 0 → parseFieldDescriptor (TJ9 k).2.2.1 = some (tyJ9 k) := by decide +kernel
abbrev cJ9_max_7cf53 : ByteArray := prog_9_method_65_code
def yJ9_max_7cf53 : MethodName := ⟨RJ9, "max", "(II)I"⟩
abbrev cJ9_min_7cf53 : ByteArray := prog_9_method_69_code
def yJ9_min_7cf53 : MethodName := ⟨RJ9, "min", "(II)I"⟩
def RJ10 : String := "java/lang/System"
def TJ10 : u_T := fun k => match k with
  | _ => ("", "", "", false)
def tyJ10 : Nat → FieldType := fun k => match k with
  | _ => .int
abbrev wsJ100 : List Cond := u_ws RJ10 TJ10 0
theorem nmJ10 : ∀ a, a < 0 → ∀ b, b < 0 → a ≠ b → (TJ10 a).2.1 ≠ (TJ10 b).2.1 := by decide +kernel
theorem tyJ10_ok : ∀ k, k < 0 → parseFieldDescriptor (TJ10 k).2.2.1 = some (tyJ10 k) := by decide +kernel
def RL : String := "KeyGravesLaw"
abbrev cL_cell : ByteArray := method_2_code
def yL_cell : MethodName := ⟨RL, "cell", "([II)I"⟩
abbrev cL_low : ByteArray := method_3_code
def yL_low : MethodName := ⟨RL, "low", "(II)I"⟩
abbrev cL_stamp : ByteArray := method_4_code
def yL_stamp : MethodName := ⟨RL, "stamp", "(LKeyGraves;II)I"⟩
abbrev cL_does : ByteArray := method_5_code
def yL_does : MethodName := ⟨RL, "does", "(LKeyGraves;[II)I"⟩
abbrev cL_areKnownSo : ByteArray := method_6_code
def yL_areKnownSo : MethodName := ⟨RL, "areKnownSo", "(LKeyGraves;[I)Z"⟩
abbrev cL_isRepairSo : ByteArray := method_7_code
def yL_isRepairSo : MethodName := ⟨RL, "isRepairSo", "(LKeyGraves;II)Z"⟩
abbrev cL_isGraceSo : ByteArray := method_8_code
def yL_isGraceSo : MethodName := ⟨RL, "isGraceSo", "(LKeyGraves;)Z"⟩
abbrev cL_isSlowestSo : ByteArray := method_9_code
def yL_isSlowestSo : MethodName := ⟨RL, "isSlowestSo", "(LKeyGraves;)Z"⟩
abbrev cL_law : ByteArray := code
def yL_law : MethodName := ⟨RL, "law", "([I)Z"⟩
def vwCl : List vw_C := [(RX0, TX0, 7), (RX1, TX1, 4), (RX2, TX2, 4), (RX3, TX3, 2), (RX4, TX4, 10), (RX5, TX5, 6)]
set_option maxRecDepth 100000 in
theorem kg_in0 : ∀ w ∈ wsX00, w ∈ lw_tbl := by decide +kernel
set_option maxRecDepth 100000 in
theorem kg_in1 : ∀ w ∈ wsX10, w ∈ lw_tbl := by decide +kernel
set_option maxRecDepth 100000 in
theorem kg_in2 : ∀ w ∈ wsX20, w ∈ lw_tbl := by decide +kernel
set_option maxRecDepth 100000 in
theorem kg_in3 : ∀ w ∈ wsX30, w ∈ lw_tbl := by decide +kernel
set_option maxRecDepth 100000 in
theorem kg_in4 : ∀ w ∈ wsX40, w ∈ lw_tbl := by decide +kernel
set_option maxRecDepth 100000 in
theorem kg_in5 : ∀ w ∈ wsX50, w ∈ lw_tbl := by decide +kernel
end
section
/-! THE ABSTRACT MACHINE: places instead of addresses; a memory of ints, a table of refs -/
abbrev kg_M : Type := Nat → Nat → Int32
abbrev kg_Rf : Type := Nat → Nat → Nat
abbrev kg_W : Type := Nat × kg_Rf
def kg_sb (r : Nat) : Nat × Nat := match r with
  | 0 => (4, 4) | 1 => (0, 5) | 2 => (1, 4) | 3 => (4, 1) | 4 => (0, 40) | 5 => (0, 40) | 6 => (0, 40) | 7 => (0, 40) | 8 => (0, 16) | 9 => (4, 2) | 10 => (0, 10) | 11 => (0, 10) | 12 => (0, 10) | 13 => (4, 0) | 14 => (0, 4) | 15 => (0, 10) | 16 => (0, 10) | 17 => (0, 10) | 18 => (0, 10) | _ => (0, 4)
def kg_kd (p : Nat) : Nat × Nat := if p = 0 then (4, 5) else if p ≤ 20 then kg_sb (p - 1) else if p = 21 then (3, 4) else if p ≤ 121 then kg_sb ((p - 22) % 20) else match p with
  | 122 => (4, 3) | 123 => (2, 60) | 124 => (0, 8) | _ => (5, 0)
def kg_nf (c : Nat) : Nat := match c with | 0 => 7 | 1 => 4 | 2 => 4 | 3 => 2 | 4 => 10 | _ => 6
/-- is the k-th field of class c a ref -/
def kg_fr (c k : Nat) : Bool := match c with
  | 0 => decide (2 ≤ k) | 1 => true | 2 => decide (1 ≤ k) | 3 => decide (k = 0) | 4 => decide (2 ≤ k ∧ k ≤ 8) | _ => decide (k ≠ 2 ∧ k ≠ 4)
def kg_ro (b r : Nat) : Option Nat := if r = 0 then none else some (b + r)
def kg_fs (b : Nat) (w : kg_W) (M : kg_M) (p c : Nat) : List Value := (List.range (kg_nf c)).map (fun k => if kg_fr c k = true then va_rf (kg_ro b (w.2 p k)) else .int (M p k))
def kg_ce (b : Nat) (cA : Nat → ClassId) (w : kg_W) (M : kg_M) (p : Nat) : va_E :=
  if (kg_kd p).1 = 3 then .inl (cA 3, (kg_kd p).2, .inr (.inr (.inr (.inr (fun i => kg_ro b (w.2 p i))))))
  else if (kg_kd p).1 = 4 then .inr ((kg_kd p).2, kg_fs b w M p (kg_kd p).2)
  else .inl (cA (kg_kd p).1, (kg_kd p).2, .inl (M p))
def kg_wl (b : Nat) (cA : Nat → ClassId) (w : kg_W) (M : kg_M) : va_W := (List.range w.1).map (fun p => (b + p, kg_ce b cA w M p))
/-- the launch, the first address, the classes, the array classes, the statics' and the script's addresses, the script -/
abbrev kg_G : Type := Launch × Nat × va_G × (Nat → ClassId) × (Nat → Nat) × Nat × (Nat → Int32)
abbrev kg_b (G : kg_G) : Nat := G.2.1
abbrev kg_A (G : kg_G) : Nat → Prop := fun q => kg_b G ≤ q
def kg_cv (G : kg_G) (v : Value) : Value := match v with
  | .int x => .int x
  | .ref p => .ref (if p < 1000 then kg_b G + p else G.2.2.2.2.1 (p - 1000))
  | _ => .null
theorem kg_cat (G : kg_G) (v : Value) : (kg_cv G v).category = 1 := by cases v <;> rfl
theorem kg_cvref (G : kg_G) {p : Nat} (h : p < 1000) : kg_cv G (.ref p) = .ref (kg_b G + p) := by simp [kg_cv, h]
def kg_lg {α : Type} : List (Option α) → Nat → Option α
  | [], _ => none
  | x :: _, 0 => x
  | _ :: l, n + 1 => kg_lg l n
def kg_ls {α : Type} : List (Option α) → Nat → α → List (Option α)
  | [], _, _ => []
  | _ :: l, 0, v => some v :: l
  | x :: l, n + 1, v => x :: kg_ls l n v
theorem kg_lg_ls {α : Type} : ∀ (l : List (Option α)) (i j : Nat) (v w : α), kg_lg (kg_ls l i v) j = some w → (j = i ∧ w = v) ∨ (j ≠ i ∧ kg_lg l j = some w)
  | [], i, j, v, w, h => by simp [kg_ls, kg_lg] at h
  | x :: l, 0, 0, v, w, h => by simp [kg_ls, kg_lg] at h; exact Or.inl ⟨rfl, h.symm⟩
  | x :: l, 0, j + 1, v, w, h => by simp [kg_ls, kg_lg] at h; exact Or.inr ⟨by omega, h⟩
  | x :: l, i + 1, 0, v, w, h => by simp [kg_ls, kg_lg] at h; exact Or.inr ⟨by omega, h⟩
  | x :: l, i + 1, j + 1, v, w, h => by
    have h1 := kg_lg_ls l i j v w h
    rcases h1 with ⟨a, b⟩ | ⟨a, b⟩
    · exact Or.inl ⟨by omega, b⟩
    · exact Or.inr ⟨by omega, b⟩
def kg_cl (G : kg_G) (n : Nat) (ls : List (Option Value)) : List (Nat × Value) := (List.range n).filterMap (fun i => (kg_lg ls i).map (fun v => (i, kg_cv G v)))
theorem kg_cl_in {G : kg_G} {n i : Nat} {ls : List (Option Value)} {v : Value} (hi : i < n) (h : kg_lg ls i = some v) : (i, kg_cv G v) ∈ kg_cl G n ls :=
  List.mem_filterMap.mpr ⟨i, List.mem_range.mpr hi, by rw [h]; rfl⟩
theorem kg_cl_of {G : kg_G} {n : Nat} {ls : List (Option Value)} {q : Nat × Value} (h : q ∈ kg_cl G n ls) : ∃ v, q.1 < n ∧ kg_lg ls q.1 = some v ∧ q.2 = kg_cv G v := by
  obtain ⟨i, hi, h⟩ := List.mem_filterMap.mp h
  cases hv : kg_lg ls i with
  | none => rw [hv] at h; cases h
  | some v =>
    rw [hv] at h
    cases h
    exact ⟨v, List.mem_range.mp hi, hv, rfl⟩
theorem kg_l_rd {G : kg_G} {A : Array Slot} {n i : Nat} {ls : List (Option Value)} {v : Value} (h : lv_has A n (kg_cl G n ls)) (hi : i < n) (hv : kg_lg ls i = some v) : A[i]? = some (.val (kg_cv G v)) := h.2.2 _ (kg_cl_in hi hv)
theorem kg_l_wr {G : kg_G} {A : Array Slot} {n i : Nat} {ls : List (Option Value)} {v : Value} (h : lv_has A n ((i, kg_cv G v) :: (kg_cl G n ls).filter (fun q => !(q.1 == i) && !(q.1 + 1 == i && q.2.category == 2)))) : lv_has A n (kg_cl G n (kg_ls ls i v)) := by
  refine ⟨h.1, h.2.1, fun q hq => ?_⟩
  obtain ⟨v2, h1, h2, h3⟩ := kg_cl_of hq
  obtain ⟨j, qv⟩ := q
  dsimp only at h1 h2 h3
  subst h3
  rcases kg_lg_ls _ _ _ _ _ h2 with ⟨a, e⟩ | ⟨a, e⟩
  · subst a; subst e
    exact h.2.2 (_, kg_cv G v2) List.mem_cons_self
  · refine h.2.2 (j, kg_cv G v2) (List.mem_cons_of_mem _ (List.mem_filter.mpr ⟨kg_cl_in h1 e, ?_⟩))
    simp [a, kg_cat]
/-- slots that the places below n take -/
def kg_zs (p : Nat) : Nat := if (kg_kd p).1 = 4 then kg_nf (kg_kd p).2 else (kg_kd p).2
def kg_sz : Nat → Nat
  | 0 => 0
  | n + 1 => kg_sz n + kg_zs n
theorem kg_sz_mono {a b : Nat} (h : a ≤ b) : kg_sz a ≤ kg_sz b := by
  induction h with
  | refl => exact Nat.le_refl _
  | step _ ih => exact Nat.le_trans ih (Nat.le_add_right _ _)
def kg_tys (cA : Nat → ClassId) : List (ClassId × FieldType) := [(cA 0, .int), (cA 1, .boolean), (cA 2, .char), (cA 3, .object "KeyGraves$State")]
def kg_nest : List (String × Nat × MethodName) := [("KeyGraves$State", 28, yX1_init), ("KeyGraves$State", 38, yX2_init), ("KeyGraves$State", 45, yX0_init), ("KeyGraves", 33, yX3_init), ("KeyGraves$State", 75, yX5_place), ("KeyGraves$State", 110, yX5_pairPlace)]
/-- what is true of every state's tables -/
def kg_Inv (G : kg_G) (U : State) : Prop := va_K G.2.2.1 vwCl (kg_tys G.2.2.2.1) U ∧ (∀ q ∈ kg_nest, va_Nw (.methodLinkNest q.1 q.2.1 q.2.2 "KeyGraves") U) ∧ va_Nw (.fieldLinkNest "KeyGraves$State" 56 "KeyGraves" "FIRST_SETTINGS" "[I" "KeyGraves") U ∧ va_AO "KeyGraves$State" U
theorem kg_Inv.moved {G : kg_G} {s U : State} (hW : s.WarmedH U.vm) (h : kg_Inv G s) : kg_Inv G U :=
  ⟨va_K.moved hW.alike h.1, fun q hq => va_Nw.warmM hW (h.2.1 q hq), va_Nw.warmF hW h.2.2.1, va_AO.moved hW.alike h.2.2.2⟩
theorem kg_Inv.same {G : kg_G} {s U : State} (hv : s.vm = U.vm) (h : kg_Inv G s) : kg_Inv G U :=
  ⟨va_K.moved (by rw [hv]; exact Vm.Alike.refl _) h.1, fun q hq => va_Nw.same rfl hv (h.2.1 q hq), va_Nw.same rfl hv h.2.2.1, va_AO.moved (by rw [hv]; exact Vm.Alike.refl _) h.2.2.2⟩
def kg_sv (p j : Nat) : Int32 := match p with
  | 1001 => (match j with | 0 => 1 | 1 => 1 | 2 => 1 | _ => 0)
  | 1002 => (match j with | 0 => 4 | 1 => 4 | 2 => 500 | _ => 1)
  | _ => (match j with | 0 => 2 | 1 => 2 | 2 => 50 | 3 => 0 | _ => 1)
def kg_sn (p : Nat) : String := match p with | 1001 => "LEAST_SETTINGS" | 1002 => "GREATEST_SETTINGS" | _ => "FIRST_SETTINGS"
/-- the statics and the script, in a heap that agrees with the start below the first address -/
def kg_St (G : kg_G) (U : State) (H : Heap) : Prop :=
  (∀ p, p ∈ [1001, 1002, 1003] → va_Z "KeyGraves" (kg_sn p) "[I" (.ref (G.2.2.2.2.1 (p - 1000))) (kg_A G) U H ∧ va_T .int (G.2.2.2.2.1 (p - 1000)) 5 (fun j => .int (kg_sv p j)) (kg_A G) U H)
  ∧ va_X (G.2.2.2.2.1 0) G.2.2.2.2.2.1 G.2.2.2.2.2.2 U H ∧ G.2.2.2.2.1 0 < kg_b G
theorem kg_St.moved {G : kg_G} {s U : State} {H : Heap} (hW : s.vm.Alike U.vm) (h : kg_St G s H) : kg_St G U H :=
  ⟨fun p hp => ⟨va_Z.moved hW (h.1 p hp).1, va_T.moved hW (h.1 p hp).2⟩, va_X.moved hW h.2.1, h.2.2⟩
theorem kg_St.kept {G : kg_G} {U : State} {H H1 : Heap} (hb : kg_b G ≤ H.size) (hq : ∀ a : Nat, a < H.size → ¬ kg_A G a → H1[a]? = H[a]?) (h : kg_St G U H) : kg_St G U H1 :=
  ⟨fun p hp => ⟨va_Z.kept (h.1 p hp).1 hq, va_T.kept (h.1 p hp).2 hq⟩, va_X.kept h.2.1 (hq _ (Nat.lt_of_lt_of_le h.2.2 hb) (Nat.not_le.mpr h.2.2)), h.2.2⟩
def kg_WH (G : kg_G) (w : kg_W) (M : kg_M) (H : Heap) : Prop := (w.1 < 125 → H.size = kg_b G + w.1) ∧ va_P G.2.2.1 vwCl (kg_wl (kg_b G) G.2.2.2.1 w M) H
theorem kg_wl_at {b : Nat} {cA : Nat → ClassId} {w : kg_W} {M : kg_M} {p : Nat} (h : p < w.1) : (kg_wl b cA w M)[p]? = some (b + p, kg_ce b cA w M p) := by
  simp [kg_wl, h]
theorem kg_wl_of {b : Nat} {cA : Nat → ClassId} {w : kg_W} {M : kg_M} {p : Nat} {q : Nat × va_E} (h : (kg_wl b cA w M)[p]? = some q) : p < w.1 ∧ q = (b + p, kg_ce b cA w M p) := by
  by_cases hp : p < w.1
  · rw [kg_wl_at hp] at h
    exact ⟨hp, (Option.some.inj h).symm⟩
  · simp [kg_wl, hp] at h
theorem kg_dis (G : kg_G) (w : kg_W) (M : kg_M) : va_D (kg_A G) (kg_wl (kg_b G) G.2.2.2.1 w M) := by
  refine ⟨fun i j p q hi hj hpq => ?_, fun k q hk => ?_⟩
  · rw [(kg_wl_of hi).2, (kg_wl_of hj).2] at hpq
    dsimp only at hpq
    omega
  · rw [(kg_wl_of hk).2]
    exact Nat.le_add_right _ _
theorem kg_wl_set {b : Nat} {cA : Nat → ClassId} {w w' : kg_W} {M M' : kg_M} {p : Nat} {e : va_E} (hw : w'.1 = w.1) (he : e = kg_ce b cA w' M' p) (ho : ∀ q, q ≠ p → kg_ce b cA w' M' q = kg_ce b cA w M q) : (kg_wl b cA w M).set p (b + p, e) = kg_wl b cA w' M' := by
  apply List.ext_getElem?
  intro i
  rw [List.getElem?_set]
  by_cases h : p = i
  · subst h
    rw [if_pos rfl]
    by_cases hp : p < w.1
    · rw [kg_wl_at (by omega), he, if_pos (by simp [kg_wl, hp])]
    · simp [kg_wl, hp, hw]
  · rw [if_neg h]
    by_cases hp : i < w.1
    · rw [kg_wl_at hp, kg_wl_at (by omega), ho i (Ne.symm h)]
    · simp [kg_wl, hp, hw]
def kg_wr (M : kg_M) (p j : Nat) (v : Int32) : kg_M := fun q => if q = p then (fun i => if i = j then v else M p i) else M q
def kg_wrr (w : kg_W) (p j r : Nat) : kg_W := (w.1, fun q => if q = p then (fun i => if i = j then r else w.2 p i) else w.2 q)
theorem kg_wr_ne {M : kg_M} {p j q : Nat} {v : Int32} (h : q ≠ p) : kg_wr M p j v q = M q := by simp [kg_wr, h]
theorem kg_wr_eq (M : kg_M) (p j : Nat) (v : Int32) : kg_wr M p j v p j = v := by simp [kg_wr]
theorem kg_wr_nj {M : kg_M} {p j i : Nat} {v : Int32} (h : i ≠ j) : kg_wr M p j v p i = M p i := by simp [kg_wr, h]
theorem kg_ce_same {b : Nat} {cA : Nat → ClassId} {w w' : kg_W} {M M' : kg_M} {p : Nat} (hM : M' p = M p) (hR : w'.2 p = w.2 p) : kg_ce b cA w' M' p = kg_ce b cA w M p := by
  simp only [kg_ce, kg_fs, hM, hR]
theorem kg_WH_put {G : kg_G} {w w' : kg_W} {M M' : kg_M} {H H1 : Heap} {p : Nat} (hH : kg_WH G w M H) (hw : w'.1 = w.1) (hp : p < w.1) (z : H1.size = H.size) (oq : ∀ q : Nat, q ≠ kg_b G + p → H1[q]? = H[q]?) (he : va_at G.2.2.1 vwCl (kg_b G + p, kg_ce (kg_b G) G.2.2.2.1 w' M' p) H1) (ho : ∀ q, q ≠ p → kg_ce (kg_b G) G.2.2.2.1 w' M' q = kg_ce (kg_b G) G.2.2.2.1 w M q) : kg_WH G w' M' H1 := by
  refine ⟨fun h => by rw [z, hw]; exact hH.1 (by omega), ?_⟩
  have h1 := hH.2.set (kg_dis G w M) (kg_wl_at hp) he oq
  rw [kg_wl_set hw rfl ho] at h1
  exact h1
theorem kg_fs_at {b : Nat} {w : kg_W} {M : kg_M} {p c k : Nat} (hk : k < kg_nf c) : (kg_fs b w M p c)[k]? = some (if kg_fr c k = true then va_rf (kg_ro b (w.2 p k)) else .int (M p k)) := by
  simp [kg_fs, hk]
theorem kg_fs_len {b : Nat} {w : kg_W} {M : kg_M} {p c : Nat} : (kg_fs b w M p c).length = kg_nf c := by simp [kg_fs]
theorem kg_fs_seti {b : Nat} {w : kg_W} {M : kg_M} {p c k : Nat} {x : Int32} (hf : kg_fr c k = false) : (kg_fs b w M p c).set k (.int x) = kg_fs b w (kg_wr M p k x) p c := by
  apply List.ext_getElem?
  intro i
  by_cases h : i < kg_nf c
  · by_cases hi : k = i
    · subst hi
      rw [List.getElem?_set_self (by rw [kg_fs_len]; exact h), kg_fs_at h]
      simp [hf, kg_wr]
    · rw [List.getElem?_set_ne hi, kg_fs_at h, kg_fs_at h, kg_wr_nj (Ne.symm hi)]
  · rw [List.getElem?_eq_none (by rw [List.length_set, kg_fs_len]; omega), List.getElem?_eq_none (by rw [kg_fs_len]; omega)]
theorem kg_fs_setr {b : Nat} {w : kg_W} {M : kg_M} {p c k r : Nat} (hf : kg_fr c k = true) : (kg_fs b w M p c).set k (va_rf (kg_ro b r)) = kg_fs b (kg_wrr w p k r) M p c := by
  apply List.ext_getElem?
  intro i
  by_cases h : i < kg_nf c
  · by_cases hi : k = i
    · subst hi
      rw [List.getElem?_set_self (by rw [kg_fs_len]; exact h), kg_fs_at h]
      simp [hf, kg_wrr]
    · rw [List.getElem?_set_ne hi, kg_fs_at h, kg_fs_at h]
      simp [kg_wrr, Ne.symm hi]
  · rw [List.getElem?_eq_none (by rw [List.length_set, kg_fs_len]; omega), List.getElem?_eq_none (by rw [kg_fs_len]; omega)]
theorem kg_ce_o {b : Nat} {cA : Nat → ClassId} {w : kg_W} {M : kg_M} {p c : Nat} (h : kg_kd p = (4, c)) : kg_ce b cA w M p = .inr (c, kg_fs b w M p c) := by simp [kg_ce, h]
theorem kg_ce_i {b : Nat} {cA : Nat → ClassId} {w : kg_W} {M : kg_M} {p t n : Nat} (h : kg_kd p = (t, n)) (ht : t < 3) : kg_ce b cA w M p = .inl (cA t, n, .inl (M p)) := by
  simp only [kg_ce, h]
  rw [if_neg (by omega), if_neg (by omega)]
theorem kg_ce_q {b : Nat} {cA : Nat → ClassId} {w : kg_W} {M : kg_M} {p n : Nat} (h : kg_kd p = (3, n)) : kg_ce b cA w M p = .inl (cA 3, n, .inr (.inr (.inr (.inr (fun i => kg_ro b (w.2 p i)))))) := by simp [kg_ce, h]
theorem kg_wr_upd (M : kg_M) (p j : Nat) (v : Int32) : kg_wr M p j v p = upd (M p) j v := by
  funext i
  simp [kg_wr, upd]
theorem kg_ce_wr {b : Nat} {cA : Nat → ClassId} {w : kg_W} {M : kg_M} {p j q : Nat} {v : Int32} (h : q ≠ p) : kg_ce b cA w (kg_wr M p j v) q = kg_ce b cA w M q := kg_ce_same (kg_wr_ne h) rfl
theorem kg_ce_wrr {b : Nat} {cA : Nat → ClassId} {w : kg_W} {M : kg_M} {p j q r : Nat} (h : q ≠ p) : kg_ce b cA (kg_wrr w p j r) M q = kg_ce b cA w M q := kg_ce_same rfl (by simp [kg_wrr, h])
/-- the classes by number -/
def kg_C (c : Nat) : String := match c with | 0 => RX0 | 1 => RX1 | 2 => RX2 | 3 => RX3 | 4 => RX4 | 5 => RX5 | _ => "KeyGravesLaw"
def kg_F (c : Nat) : u_T := match c with | 0 => TX0 | 1 => TX1 | 2 => TX2 | 3 => TX3 | 4 => TX4 | _ => TX5
def kg_ft (c : Nat) : Nat → FieldType := match c with | 0 => tyX0 | 1 => tyX1 | 2 => tyX2 | 3 => tyX3 | 4 => tyX4 | _ => tyX5
theorem kg_c7 {c : Nat} (h : c < 6) : c = 0 ∨ c = 1 ∨ c = 2 ∨ c = 3 ∨ c = 4 ∨ c = 5 := by omega
theorem kg_F_cl {c : Nat} (h : c < 6) : vwCl[c]? = some (kg_C c, kg_F c, kg_nf c) := by
  rcases kg_c7 h with rfl | rfl | rfl | rfl | rfl | rfl <;> rfl
theorem kg_F_ty {c : Nat} (h : c < 6) : ∀ k, k < kg_nf c → parseFieldDescriptor (kg_F c k).2.2.1 = some (kg_ft c k) := by
  rcases kg_c7 h with rfl | rfl | rfl | rfl | rfl | rfl
  · exact tyX0_ok
  · exact tyX1_ok
  · exact tyX2_ok
  · exact tyX3_ok
  · exact tyX4_ok
  · exact tyX5_ok
theorem kg_F_nm {c : Nat} (h : c < 6) : ∀ a, a < kg_nf c → ∀ b, b < kg_nf c → a ≠ b → (kg_F c a).2.1 ≠ (kg_F c b).2.1 := by
  rcases kg_c7 h with rfl | rfl | rfl | rfl | rfl | rfl
  · exact nmX0
  · exact nmX1
  · exact nmX2
  · exact nmX3
  · exact nmX4
  · exact nmX5
theorem kg_F_in0 {c : Nat} (h : c < 6) : ∀ w ∈ u_ws (kg_C c) (kg_F c) (kg_nf c), w ∈ lw_tbl := by
  rcases kg_c7 h with rfl | rfl | rfl | rfl | rfl | rfl
  · exact kg_in0
  · exact kg_in1
  · exact kg_in2
  · exact kg_in3
  · exact kg_in4
  · exact kg_in5
theorem kg_F_good {c : Nat} (h : c < 6) : (u_ws (kg_C c) (kg_F c) (kg_nf c)).all goodWord = true := by
  rcases kg_c7 h with rfl | rfl | rfl | rfl | rfl | rfl <;> decide +kernel
theorem kg_kd_c {p c : Nat} (h : kg_kd p = (4, c)) : c < 6 := by
  by_cases hp : p < 125
  · have h1 : ∀ p, p < 125 → (kg_kd p).1 = 4 → (kg_kd p).2 < 6 := by decide +kernel
    have h2 := h1 p hp (by rw [h])
    rw [h] at h2
    exact h2
  · unfold kg_kd at h
    rw [if_neg (by omega), if_neg (by omega), if_neg (by omega), if_neg (by omega)] at h
    split at h <;> first | omega | (cases h)
end
section
/-! THE ROWS: one lemma an instruction, over the abstract machine -/
def kg_T : List Cond := lw_tbl.filter goodWord
theorem kg_F_in {c : Nat} (h : c < 6) : ∀ w ∈ u_ws (kg_C c) (kg_F c) (kg_nf c), w ∈ kg_T := fun w hw => List.mem_filter.mpr ⟨kg_F_in0 h w hw, List.all_eq_true.mp (kg_F_good h) w hw⟩
abbrev kg_Xt : Type := Program → Env → Room → State → MethodId → Array Value → List Frame → Method → Code → (State → Prop) → Prop
/-- what a method's own words say, of any state that it starts in -/
def kg_Bs (G : kg_G) (own : String) (cc : ByteArray) (nL d : Nat) (ini : Bool) (N0 NX : Nat) (p : Program) (R : Room) (s : State) (m : MethodId) (args : Array Value) (meth : Method) (c : Code) : Prop :=
  p.tables.exec = Jvm.exec ∧ c.code = cc ∧ c.maxLocals = nL ∧ s.vm.findClass own = some m.cls ∧ (∀ w ∈ kg_T, w.before args s = true) ∧ kg_Inv G s ∧ kg_St G s s.heap ∧ kg_b G ≤ s.heap.size ∧ (d ≤ R.frames ∧ 30 * d + 24 ≤ R.locals) ∧ (NX - N0 ≤ R.cells ∧ kg_sz NX - kg_sz N0 ≤ R.slots) ∧ (ini = true → meth.name = "<init>")
def kg_B (G : kg_G) (X : kg_Xt) (own : String) (cc : ByteArray) (nL d : Nat) (ini : Bool) (N0 NX : Nat) : Prop :=
  ∀ p e R s m args below meth c Qf, X p e R s m args below meth c Qf → kg_Bs G own cc nL d ini N0 NX p R s m args meth c
def kg_V (G : kg_G) (X : kg_Xt) (nL N0 NX : Nat) (pc : Nat) (ls : List (Option Value)) (st : List Value) (w : kg_W) (M : kg_M) : Prop :=
  N0 ≤ w.1 → w.1 ≤ NX → ∀ p e R s m args below meth c Qf, X p e R s m args below meth c Qf → ∀ (H : Heap) (locs : List Loc) (A : Array Slot), kg_WH G w M H → va_S (kg_A G) s.heap H locs → lv_has A nL (kg_cl G nL ls) → W p G.1 e R s m args below meth c H locs (w.1 - N0) (kg_sz w.1 - kg_sz N0) Qf (F0 m pc A (st.map (kg_cv G)))
section
variable {G : kg_G} {X : kg_Xt} {own : String} {cc : ByteArray} {nL d : Nat} {ini : Bool} {N0 NX : Nat} {pc : Nat} {ls : List (Option Value)} {st : List Value} {w : kg_W} {M : kg_M}
theorem kg_r_const (hB : kg_B G X own cc nL d ini N0 NX) {a : Int} {x : Int32} {nx : Nat} (h : (nx = pc + 1 ∧ decode cc pc = .ok (.iconst a, 1) ∧ Int32.ofInt a = x) ∨ (nx = pc + 2 ∧ decode cc pc = .ok (.bipush a, 2) ∧ (Int8.ofInt a).toInt32 = x) ∨ (nx = pc + 3 ∧ decode cc pc = .ok (.sipush a, 3) ∧ (Int16.ofInt a).toInt32 = x))
    (k : kg_V G X nL N0 NX nx ls (.int x :: st) w M) : kg_V G X nL N0 NX pc ls st w M := by
  intro g1 g2 p e R s m args below meth c Qf hX H locs A hH hS hl
  obtain ⟨hx, hb, -⟩ := hB _ _ _ _ _ _ _ _ _ _ hX
  rcases h with ⟨rfl, hd, hv⟩ | ⟨rfl, hd, hv⟩ | ⟨rfl, hd, hv⟩
  · exact lv_iconst hx hb hd hv (k g1 g2 p e R s m args below meth c Qf hX H locs A hH hS hl)
  · exact lv_bipush hx hb hd hv (k g1 g2 p e R s m args below meth c Qf hX H locs A hH hS hl)
  · exact lv_sipush hx hb hd hv (k g1 g2 p e R s m args below meth c Qf hX H locs A hH hS hl)
theorem kg_r_ldc (hB : kg_B G X own cc nL d ini N0 NX) {i : Nat} {x : Int32} (hd : decode cc pc = .ok (.ldc i, 2)) (hc : Cond.constant own i x ∈ kg_T)
    (k : kg_V G X nL N0 NX (pc + 2) ls (.int x :: st) w M) : kg_V G X nL N0 NX pc ls st w M := by
  intro g1 g2 p e R s m args below meth c Qf hX H locs A hH hS hl
  obtain ⟨hx, hb, -, hown, hts, -⟩ := hB _ _ _ _ _ _ _ _ _ _ hX
  exact lv_ldc hx hb hown (hts _ hc) hd (k g1 g2 p e R s m args below meth c Qf hX H locs A hH hS hl)
theorem kg_r_iload (hB : kg_B G X own cc nL d ini N0 NX) {a : Nat} {x : Int32} {nx : Nat} (ha : a < nL) (h : (nx = pc + 1 ∧ ∃ f : Fin 4, (f : Nat) = a ∧ decode cc pc = .ok (.iload_n f, 1)) ∨ (nx = pc + 2 ∧ decode cc pc = .ok (.iload a, 2))) (hv : kg_lg ls a = some (.int x))
    (k : kg_V G X nL N0 NX nx ls (.int x :: st) w M) : kg_V G X nL N0 NX pc ls st w M := by
  intro g1 g2 p e R s m args below meth c Qf hX H locs A hH hS hl
  obtain ⟨hx, hb, -⟩ := hB _ _ _ _ _ _ _ _ _ _ hX
  rcases h with ⟨rfl, f, hf, hd⟩ | ⟨rfl, hd⟩
  · exact lv_iload_n hx hb hd hf (kg_l_rd hl ha hv) (k g1 g2 p e R s m args below meth c Qf hX H locs A hH hS hl)
  · exact lv_iload hx hb hd (kg_l_rd hl ha hv) (k g1 g2 p e R s m args below meth c Qf hX H locs A hH hS hl)
theorem kg_r_aload (hB : kg_B G X own cc nL d ini N0 NX) {a q : Nat} {nx : Nat} (ha : a < nL) (h : (nx = pc + 1 ∧ ∃ f : Fin 4, (f : Nat) = a ∧ decode cc pc = .ok (.aload_n f, 1)) ∨ (nx = pc + 2 ∧ decode cc pc = .ok (.aload a, 2))) (hv : kg_lg ls a = some (.ref q))
    (k : kg_V G X nL N0 NX nx ls (.ref q :: st) w M) : kg_V G X nL N0 NX pc ls st w M := by
  intro g1 g2 p e R s m args below meth c Qf hX H locs A hH hS hl
  obtain ⟨hx, hb, -⟩ := hB _ _ _ _ _ _ _ _ _ _ hX
  rcases h with ⟨rfl, f, hf, hd⟩ | ⟨rfl, hd⟩
  · exact lv_aload_n hx hb hd hf (kg_l_rd hl ha hv) (k g1 g2 p e R s m args below meth c Qf hX H locs A hH hS hl)
  · exact lv_aload hx hb hd (kg_l_rd hl ha hv) (k g1 g2 p e R s m args below meth c Qf hX H locs A hH hS hl)
theorem kg_r_istore (hB : kg_B G X own cc nL d ini N0 NX) {a : Nat} {x : Int32} {nx : Nat} (ha : a < nL) (h : (nx = pc + 1 ∧ ∃ f : Fin 4, (f : Nat) = a ∧ decode cc pc = .ok (.istore_n f, 1)) ∨ (nx = pc + 2 ∧ decode cc pc = .ok (.istore a, 2)))
    (k : kg_V G X nL N0 NX nx (kg_ls ls a (.int x)) st w M) : kg_V G X nL N0 NX pc ls (.int x :: st) w M := by
  intro g1 g2 p e R s m args below meth c Qf hX H locs A hH hS hl
  obtain ⟨hx, hb, -⟩ := hB _ _ _ _ _ _ _ _ _ _ hX
  rcases h with ⟨rfl, f, hf, hd⟩ | ⟨rfl, hd⟩
  · exact lv_istore_n hx hb hd hf hl ha rfl (fun A2 h2 => k g1 g2 p e R s m args below meth c Qf hX H locs A2 hH hS (kg_l_wr (v := .int x) h2))
  · exact lv_istore hx hb hd hl ha rfl (fun A2 h2 => k g1 g2 p e R s m args below meth c Qf hX H locs A2 hH hS (kg_l_wr (v := .int x) h2))
theorem kg_r_astore (hB : kg_B G X own cc nL d ini N0 NX) {a q : Nat} {nx : Nat} (ha : a < nL) (h : (nx = pc + 1 ∧ ∃ f : Fin 4, (f : Nat) = a ∧ decode cc pc = .ok (.astore_n f, 1)) ∨ (nx = pc + 2 ∧ decode cc pc = .ok (.astore a, 2)))
    (k : kg_V G X nL N0 NX nx (kg_ls ls a (.ref q)) st w M) : kg_V G X nL N0 NX pc ls (.ref q :: st) w M := by
  intro g1 g2 p e R s m args below meth c Qf hX H locs A hH hS hl
  obtain ⟨hx, hb, -⟩ := hB _ _ _ _ _ _ _ _ _ _ hX
  rcases h with ⟨rfl, f, hf, hd⟩ | ⟨rfl, hd⟩
  · exact lv_astore_n hx hb hd hf hl ha rfl (fun A2 h2 => k g1 g2 p e R s m args below meth c Qf hX H locs A2 hH hS (kg_l_wr (v := .ref q) h2))
  · exact lv_astore hx hb hd hl ha rfl (fun A2 h2 => k g1 g2 p e R s m args below meth c Qf hX H locs A2 hH hS (kg_l_wr (v := .ref q) h2))
theorem kg_r_iinc (hB : kg_B G X own cc nL d ini N0 NX) {a : Nat} {z : Int} {x y : Int32} (ha : a < nL) (hd : decode cc pc = .ok (.iinc a z, 3)) (hv : kg_lg ls a = some (.int x)) (hy : Int32.ofInt z = y)
    (k : kg_V G X nL N0 NX (pc + 3) (kg_ls ls a (.int (x + y))) st w M) : kg_V G X nL N0 NX pc ls st w M := by
  intro g1 g2 p e R s m args below meth c Qf hX H locs A hH hS hl
  obtain ⟨hx, hb, -⟩ := hB _ _ _ _ _ _ _ _ _ _ hX
  obtain ⟨i, hi⟩ := List.getElem?_of_mem (kg_cl_in (G := G) ha hv)
  subst hy
  exact lv_iinc hx hb hd hl hi rfl ha rfl (fun A2 h2 => k g1 g2 p e R s m args below meth c Qf hX H locs A2 hH hS (kg_l_wr (v := .int (x + Int32.ofInt z)) h2))
theorem kg_r_iadd (hB : kg_B G X own cc nL d ini N0 NX) {x y : Int32} (hd : decode cc pc = .ok (.iadd, 1)) (k : kg_V G X nL N0 NX (pc + 1) ls (.int (x + y) :: st) w M) : kg_V G X nL N0 NX pc ls (.int y :: .int x :: st) w M := by
  intro g1 g2 p e R s m args below meth c Qf hX H locs A hH hS hl
  obtain ⟨hx, hb, -⟩ := hB _ _ _ _ _ _ _ _ _ _ hX
  exact lv_iadd hx hb hd (k g1 g2 p e R s m args below meth c Qf hX H locs A hH hS hl)
theorem kg_r_isub (hB : kg_B G X own cc nL d ini N0 NX) {x y : Int32} (hd : decode cc pc = .ok (.isub, 1)) (k : kg_V G X nL N0 NX (pc + 1) ls (.int (x - y) :: st) w M) : kg_V G X nL N0 NX pc ls (.int y :: .int x :: st) w M := by
  intro g1 g2 p e R s m args below meth c Qf hX H locs A hH hS hl
  obtain ⟨hx, hb, -⟩ := hB _ _ _ _ _ _ _ _ _ _ hX
  exact lv_isub hx hb hd (k g1 g2 p e R s m args below meth c Qf hX H locs A hH hS hl)
theorem kg_r_imul (hB : kg_B G X own cc nL d ini N0 NX) {x y : Int32} (hd : decode cc pc = .ok (.imul, 1)) (k : kg_V G X nL N0 NX (pc + 1) ls (.int (x * y) :: st) w M) : kg_V G X nL N0 NX pc ls (.int y :: .int x :: st) w M := by
  intro g1 g2 p e R s m args below meth c Qf hX H locs A hH hS hl
  obtain ⟨hx, hb, -⟩ := hB _ _ _ _ _ _ _ _ _ _ hX
  exact lv_imul hx hb hd (k g1 g2 p e R s m args below meth c Qf hX H locs A hH hS hl)
theorem kg_r_iand (hB : kg_B G X own cc nL d ini N0 NX) {x y : Int32} (hd : decode cc pc = .ok (.iand, 1)) (k : kg_V G X nL N0 NX (pc + 1) ls (.int (x &&& y) :: st) w M) : kg_V G X nL N0 NX pc ls (.int y :: .int x :: st) w M := by
  intro g1 g2 p e R s m args below meth c Qf hX H locs A hH hS hl
  obtain ⟨hx, hb, -⟩ := hB _ _ _ _ _ _ _ _ _ _ hX
  exact lv_iand hx hb hd (k g1 g2 p e R s m args below meth c Qf hX H locs A hH hS hl)
theorem kg_r_irem (hB : kg_B G X own cc nL d ini N0 NX) {x y : Int32} (hd : decode cc pc = .ok (.irem, 1)) (hy : ¬ y = 0) (k : kg_V G X nL N0 NX (pc + 1) ls (.int (x - x / y * y) :: st) w M) : kg_V G X nL N0 NX pc ls (.int y :: .int x :: st) w M := by
  intro g1 g2 p e R s m args below meth c Qf hX H locs A hH hS hl
  obtain ⟨hx, hb, -⟩ := hB _ _ _ _ _ _ _ _ _ _ hX
  exact lv_irem hx hb hd hy (k g1 g2 p e R s m args below meth c Qf hX H locs A hH hS hl)
theorem kg_r_idiv (hB : kg_B G X own cc nL d ini N0 NX) {x y : Int32} (hd : decode cc pc = .ok (.idiv, 1)) (hy : ¬ y = 0) (k : kg_V G X nL N0 NX (pc + 1) ls (.int (x / y) :: st) w M) : kg_V G X nL N0 NX pc ls (.int y :: .int x :: st) w M := by
  intro g1 g2 p e R s m args below meth c Qf hX H locs A hH hS hl
  obtain ⟨hx, hb, -⟩ := hB _ _ _ _ _ _ _ _ _ _ hX
  exact lv_idiv hx hb hd hy (k g1 g2 p e R s m args below meth c Qf hX H locs A hH hS hl)
theorem kg_r_ishr (hB : kg_B G X own cc nL d ini N0 NX) {x y : Int32} (hd : decode cc pc = .ok (.ishr, 1)) (k : kg_V G X nL N0 NX (pc + 1) ls (.int (x >>> (y &&& 31)) :: st) w M) : kg_V G X nL N0 NX pc ls (.int y :: .int x :: st) w M := by
  intro g1 g2 p e R s m args below meth c Qf hX H locs A hH hS hl
  obtain ⟨hx, hb, -⟩ := hB _ _ _ _ _ _ _ _ _ _ hX
  exact lv_ishr hx hb hd (k g1 g2 p e R s m args below meth c Qf hX H locs A hH hS hl)
theorem kg_r_i2c (hB : kg_B G X own cc nL d ini N0 NX) {x : Int32} (hd : decode cc pc = .ok (.i2c, 1)) (k : kg_V G X nL N0 NX (pc + 1) ls (.int (x.toUInt32 % 65536).toInt32 :: st) w M) : kg_V G X nL N0 NX pc ls (.int x :: st) w M := by
  intro g1 g2 p e R s m args below meth c Qf hX H locs A hH hS hl
  obtain ⟨hx, hb, -⟩ := hB _ _ _ _ _ _ _ _ _ _ hX
  exact lv_i2c hx hb hd rfl (k g1 g2 p e R s m args below meth c Qf hX H locs A hH hS hl)
theorem kg_r_dup (hB : kg_B G X own cc nL d ini N0 NX) {v : Value} (hd : decode cc pc = .ok (.dup, 1)) (k : kg_V G X nL N0 NX (pc + 1) ls (v :: v :: st) w M) : kg_V G X nL N0 NX pc ls (v :: st) w M := by
  intro g1 g2 p e R s m args below meth c Qf hX H locs A hH hS hl
  obtain ⟨hx, hb, -⟩ := hB _ _ _ _ _ _ _ _ _ _ hX
  exact lv_dup hx hb hd (kg_cat G v) (k g1 g2 p e R s m args below meth c Qf hX H locs A hH hS hl)
theorem kg_r_dup2 (hB : kg_B G X own cc nL d ini N0 NX) {v u : Value} (hd : decode cc pc = .ok (.dup2, 1)) (k : kg_V G X nL N0 NX (pc + 1) ls (v :: u :: v :: u :: st) w M) : kg_V G X nL N0 NX pc ls (v :: u :: st) w M := by
  intro g1 g2 p e R s m args below meth c Qf hX H locs A hH hS hl
  obtain ⟨hx, hb, -⟩ := hB _ _ _ _ _ _ _ _ _ _ hX
  exact lv_dup2_11 hx hb hd (kg_cat G v) (kg_cat G u) (k g1 g2 p e R s m args below meth c Qf hX H locs A hH hS hl)
theorem kg_r_pop (hB : kg_B G X own cc nL d ini N0 NX) {v : Value} (hd : decode cc pc = .ok (.pop, 1)) (k : kg_V G X nL N0 NX (pc + 1) ls st w M) : kg_V G X nL N0 NX pc ls (v :: st) w M := by
  intro g1 g2 p e R s m args below meth c Qf hX H locs A hH hS hl
  obtain ⟨hx, hb, -⟩ := hB _ _ _ _ _ _ _ _ _ _ hX
  exact lv_pop hx hb hd (kg_cat G v) (k g1 g2 p e R s m args below meth c Qf hX H locs A hH hS hl)
theorem kg_r_goto (hB : kg_B G X own cc nL d ini N0 NX) {off : Int} {tgt : Nat} (hd : decode cc pc = .ok (.goto off, 3)) (ht : (pc : Int) + off = (tgt : Int)) (k : kg_V G X nL N0 NX tgt ls st w M) : kg_V G X nL N0 NX pc ls st w M := by
  intro g1 g2 p e R s m args below meth c Qf hX H locs A hH hS hl
  obtain ⟨hx, hb, -⟩ := hB _ _ _ _ _ _ _ _ _ _ hX
  exact lv_goto hx hb hd ht (k g1 g2 p e R s m args below meth c Qf hX H locs A hH hS hl)
def kg_cond (a : Nat) : Jvm.ClassFile.Cond := match a with | 0 => .eq | 1 => .ne | 2 => .lt | 3 => .ge | 4 => .gt | _ => .le
/-- x ? y by a condition's number -/
def kg_cmp (a : Nat) (x y : Int32) : Prop := match a with | 0 => x = y | 1 => ¬ x = y | 2 => x < y | 3 => y ≤ x | 4 => y < x | _ => x ≤ y
theorem kg_r_icmp (hB : kg_B G X own cc nL d ini N0 NX) {a : Nat} {off : Int} {tgt : Nat} {x y : Int32} (hd : decode cc pc = .ok (.if_icmp (kg_cond a) off, 3)) (ht : (pc : Int) + off = (tgt : Int))
    (kt : kg_cmp a x y → kg_V G X nL N0 NX tgt ls st w M) (kf : ¬ kg_cmp a x y → kg_V G X nL N0 NX (pc + 3) ls st w M) : kg_V G X nL N0 NX pc ls (.int y :: .int x :: st) w M := by
  intro g1 g2 p e R s m args below meth c Qf hX H locs A hH hS hl
  obtain ⟨hx, hb, -⟩ := hB _ _ _ _ _ _ _ _ _ _ hX
  have kt := fun h => kt h g1 g2 p e R s m args below meth c Qf hX H locs A hH hS hl
  have kf := fun h => kf h g1 g2 p e R s m args below meth c Qf hX H locs A hH hS hl
  match a, hd, kt, kf with
  | 0, hd, kt, kf => exact lv_icmp_eq hx hb hd ht kt kf
  | 1, hd, kt, kf => exact lv_icmp_ne hx hb hd ht kt (fun h => kf (fun q => q h))
  | 2, hd, kt, kf => exact lv_icmp_lt hx hb hd ht kt kf
  | 3, hd, kt, kf => exact lv_icmp_ge hx hb hd ht kt kf
  | 4, hd, kt, kf => exact lv_icmp_gt hx hb hd ht kt kf
  | n + 5, hd, kt, kf => exact lv_icmp_le hx hb hd ht kt kf
theorem kg_r_if (hB : kg_B G X own cc nL d ini N0 NX) {a : Nat} {off : Int} {tgt : Nat} {x : Int32} (hd : decode cc pc = .ok (.ifCond (kg_cond a) off, 3)) (ht : (pc : Int) + off = (tgt : Int))
    (kt : kg_cmp a x 0 → kg_V G X nL N0 NX tgt ls st w M) (kf : ¬ kg_cmp a x 0 → kg_V G X nL N0 NX (pc + 3) ls st w M) : kg_V G X nL N0 NX pc ls (.int x :: st) w M := by
  intro g1 g2 p e R s m args below meth c Qf hX H locs A hH hS hl
  obtain ⟨hx, hb, -⟩ := hB _ _ _ _ _ _ _ _ _ _ hX
  have kt := fun h => kt h g1 g2 p e R s m args below meth c Qf hX H locs A hH hS hl
  have kf := fun h => kf h g1 g2 p e R s m args below meth c Qf hX H locs A hH hS hl
  match a, hd, kt, kf with
  | 0, hd, kt, kf => exact lv_if_eq hx hb hd ht kt kf
  | 1, hd, kt, kf => exact lv_if_ne hx hb hd ht kt (fun h => kf (fun q => q h))
  | 2, hd, kt, kf => exact lv_if_lt hx hb hd ht kt kf
  | 3, hd, kt, kf => exact lv_if_ge hx hb hd ht kt kf
  | 4, hd, kt, kf => exact lv_if_gt hx hb hd ht kt kf
  | n + 5, hd, kt, kf => exact lv_if_le hx hb hd ht kt kf
end
end
section
/-! ROWS of fields and arrays -/
section
variable {G : kg_G} {X : kg_Xt} {own : String} {cc : ByteArray} {nL d : Nat} {ini : Bool} {N0 NX : Nat} {pc : Nat} {ls : List (Option Value)} {st : List Value} {w : kg_W} {M : kg_M}
theorem kg_r_geti (hB : kg_B G X own cc nL d ini N0 NX) {p c k i : Nat} (hp : p < 1000) (hpw : p < w.1) (hc : c < 6) (hk : k < kg_nf c) (hkd : kg_kd p = (4, c)) (hf : kg_fr c k = false) (hln : Cond.fieldLink own i (kg_F c k).1 (kg_F c k).2.1 (kg_F c k).2.2.1 ∈ kg_T) (hd : decode cc pc = .ok (.getfield i, 3))
    (kk : kg_V G X nL N0 NX (pc + 3) ls (.int (M p k) :: st) w M) : kg_V G X nL N0 NX pc ls (.ref p :: st) w M := by
  intro g1 g2 p' e R s m args below meth c' Qf hX H locs A hH hS hl
  obtain ⟨hx, hb, -, hown, hts, hI, -⟩ := hB _ _ _ _ _ _ _ _ _ _ hX
  rw [List.map_cons, kg_cvref G hp]
  refine va_get hx hb hts (kg_F_in hc) hown hI.1 hH.2 p (fs := kg_fs (kg_b G) w M p c) ?_ (kg_F_cl hc) k hk (hts _ hln) (fun _ h9 => h9) (v := .int (M p k)) ?_ hd (kk g1 g2 p' e R s m args below meth c' Qf hX H locs A hH hS hl)
  · rw [kg_wl_at hpw, kg_ce_o hkd]
  · rw [kg_fs_at hk, hf]; rfl
theorem kg_r_getr (hB : kg_B G X own cc nL d ini N0 NX) {p c k i q : Nat} (hp : p < 1000) (hpw : p < w.1) (hc : c < 6) (hk : k < kg_nf c) (hkd : kg_kd p = (4, c)) (hf : kg_fr c k = true) (hln : Cond.fieldLink own i (kg_F c k).1 (kg_F c k).2.1 (kg_F c k).2.2.1 ∈ kg_T) (hq : w.2 p k = q) (hq0 : q ≠ 0) (hq1 : q < 1000) (hd : decode cc pc = .ok (.getfield i, 3))
    (kk : kg_V G X nL N0 NX (pc + 3) ls (.ref q :: st) w M) : kg_V G X nL N0 NX pc ls (.ref p :: st) w M := by
  intro g1 g2 p' e R s m args below meth c' Qf hX H locs A hH hS hl
  obtain ⟨hx, hb, -, hown, hts, hI, -⟩ := hB _ _ _ _ _ _ _ _ _ _ hX
  rw [List.map_cons, kg_cvref G hp]
  refine va_get hx hb hts (kg_F_in hc) hown hI.1 hH.2 p (fs := kg_fs (kg_b G) w M p c) ?_ (kg_F_cl hc) k hk (hts _ hln) (fun _ h9 => h9) (v := kg_cv G (.ref q)) ?_ hd (kk g1 g2 p' e R s m args below meth c' Qf hX H locs A hH hS hl)
  · rw [kg_wl_at hpw, kg_ce_o hkd]
  · rw [kg_fs_at hk, hf, hq, kg_cvref G hq1]
    simp [kg_ro, hq0, va_rf]
/-- a store into a field: the common part -/
theorem kg_r_put (hB : kg_B G X own cc nL d ini N0 NX) {p c k i : Nat} {v : Value} {w' : kg_W} {M' : kg_M} (hp : p < 1000) (hpw : p < w.1) (hc : c < 6) (hk : k < kg_nf c) (hkd : kg_kd p = (4, c)) (hln : Cond.fieldLink own i (kg_F c k).1 (kg_F c k).2.1 (kg_F c k).2.2.1 ∈ kg_T) (hfin : (kg_F c k).2.2.2 = false ∨ (ini = true ∧ (kg_F c k).1 = own)) (hd : decode cc pc = .ok (.putfield i, 3))
    (hn : narrow (kg_ft c k) (kg_cv G v) = kg_cv G v) (hfit : fits (kg_ft c k) (kg_cv G v) = true) (hw : w'.1 = w.1) (hset : (kg_fs (kg_b G) w M p c).set k (kg_cv G v) = kg_fs (kg_b G) w' M' p c) (ho : ∀ q, q ≠ p → kg_ce (kg_b G) G.2.2.2.1 w' M' q = kg_ce (kg_b G) G.2.2.2.1 w M q)
    (kk : kg_V G X nL N0 NX (pc + 3) ls st w' M') : kg_V G X nL N0 NX pc ls (v :: .ref p :: st) w M := by
  intro g1 g2 p' e R s m args below meth c' Qf hX H locs A hH hS hl
  obtain ⟨hx, hb, -, hown, hts, hI, -, -, -, -, hini⟩ := hB _ _ _ _ _ _ _ _ _ _ hX
  rw [List.map_cons, List.map_cons, kg_cvref G hp]
  have hcl := kg_F_cl hc
  have hin := kg_F_in hc
  have hap := va_apart (own := own) hts hin (kg_ft c) (kg_F_ty hc) (kg_F_nm hc) hI.1 hcl
  obtain ⟨r, h1, cell, q1, q2, q3, q4⟩ := hH.2 p (kg_b G + p, .inr (c, kg_fs (kg_b G) w M p c)) (by rw [kg_wl_at hpw, kg_ce_o hkd])
  have hr : r = (kg_C c, kg_F c, kg_nf c) := Option.some.inj (h1.symm.trans hcl)
  subst hr
  obtain ⟨hSl, hfc, kC, hkC, hkind⟩ := hI.1.1 c _ hcl
  obtain ⟨cf, kf, fi, f, hi, hsl⟩ := hSl k hk
  have hlay := hts _ (hin _ (u_in_lay hk))
  have hst := (u_facts hfc hkC (u_lays hts hin hk) hi).1
  have fin : ∀ (H1 : Heap) (loc : Loc), H1[kg_b G + p]? = some (cell.setSlot f.slot (kg_cv G v)) → H1.size = H.size → (∀ q, q ≠ kg_b G + p → H1[q]? = H[q]?) → loc.base = kg_b G + p → W p' G.1 e R s m args below meth c' H1 (locs ++ [loc]) (w.1 - N0) (kg_sz w.1 - kg_sz N0) Qf (F0 m (pc + 3) A (st.map (kg_cv G))) := by
    intro H1 loc e1 e2 e3 el
    have g1' := g1
    have g2' := g2
    rw [← hw] at g1' g2' ⊢
    rw [hsl] at e1
    refine kk g1' g2' p' e R s m args below meth c' Qf hX H1 _ A (kg_WH_put hH hw hpw e2 e3 ?_ ho) ⟨by rw [e2]; exact hS.1, fun q a1 a2 => by rw [e3 q (fun z => a2 (by rw [z]; exact Nat.le_add_right _ _))]; exact hS.2.1 q a1 a2, fun q hq => ?_⟩ hl
    · rw [kg_ce_o hkd, ← hset]
      exact ⟨_, hcl, t_OB.to (V := updV (vp_V (kg_fs (kg_b G) w M p c)) k (kg_cv G v)) ⟨_, e1, q2, q3, t_set q4 hap hk _⟩ (fun j _ => vp_updV_set (by rw [kg_fs_len]; exact hk) _ j)⟩
    · rcases List.mem_append.mp hq with h | h
      · exact hS.2.2 q h
      · rw [List.mem_singleton.mp h, el]; exact Nat.le_add_right _ _
  unfold u_lay at hlay
  rcases hfin with hfin | ⟨hi1, hdecl⟩
  · rw [if_neg (by rw [hfin]; decide)] at hlay
    have h6 := u_store hfc hkC hkind hlay hi (kg_F_ty hc k hk) hn hfit
    exact W.putK hx hb (f := f) ⟨hown, hts _ hln, ⟨_, _, _, hi⟩, hst⟩ (by rw [q2]; exact h6) q1 q3 (by rw [hsl]; exact k2_hasslot (q4 k hk)) rfl rfl hd fun H' e1 e2 e3 => fin H' _ e1 e2 e3 rfl
  · by_cases hfin : (kg_F c k).2.2.2 = true
    · rw [if_pos hfin] at hlay
      have hcf : m.cls = cf := by
        obtain ⟨_, _, c', _, _, _, -, -, hf', -, -, -, hown2, -⟩ := Cond.laysFinal_spec hlay
        have e1 : c' = cf := by have := hi.symm.trans hf'; simp at this; exact this.1.symm
        rw [hdecl] at hown2
        rw [← e1]; exact Option.some.inj (hown.symm.trans hown2)
      have h6 := u_fits hfc hkC hkind (Or.inr hlay) hi (kg_F_ty hc k hk) hn hfit
      exact W.putFinK hx hb hown (hts _ hln) hi hst hcf (hini hi1) (by rw [q2]; exact h6) q1 q3 (by rw [hsl]; exact k2_hasslot (q4 k hk)) rfl rfl hd fun H' e1 e2 e3 => fin H' _ e1 e2 e3 rfl
    · rw [if_neg hfin] at hlay
      have h6 := u_store hfc hkC hkind hlay hi (kg_F_ty hc k hk) hn hfit
      exact W.putK hx hb (f := f) ⟨hown, hts _ hln, ⟨_, _, _, hi⟩, hst⟩ (by rw [q2]; exact h6) q1 q3 (by rw [hsl]; exact k2_hasslot (q4 k hk)) rfl rfl hd fun H' e1 e2 e3 => fin H' _ e1 e2 e3 rfl
theorem kg_r_puti (hB : kg_B G X own cc nL d ini N0 NX) {p c k i : Nat} {x : Int32} (hp : p < 1000) (hpw : p < w.1) (hc : c < 6) (hk : k < kg_nf c) (hkd : kg_kd p = (4, c)) (hf : kg_fr c k = false) (hln : Cond.fieldLink own i (kg_F c k).1 (kg_F c k).2.1 (kg_F c k).2.2.1 ∈ kg_T) (hfin : (kg_F c k).2.2.2 = false ∨ (ini = true ∧ (kg_F c k).1 = own)) (hd : decode cc pc = .ok (.putfield i, 3))
    (hz : kg_ft c k = .int ∨ (kg_ft c k = .boolean ∧ (x = 0 ∨ x = 1)))
    (kk : kg_V G X nL N0 NX (pc + 3) ls st w (kg_wr M p k x)) : kg_V G X nL N0 NX pc ls (.int x :: .ref p :: st) w M := by
  refine kg_r_put hB hp hpw hc hk hkd hln hfin hd ?_ ?_ rfl (kg_fs_seti hf) (fun q hq => kg_ce_wr hq) kk
  · rcases hz with hz | ⟨hz, rfl | rfl⟩ <;> rw [hz] <;> rfl
  · rcases hz with hz | ⟨hz, rfl | rfl⟩ <;> rw [hz] <;> rfl
theorem kg_r_putr (hB : kg_B G X own cc nL d ini N0 NX) {p c k i q : Nat} (hp : p < 1000) (hpw : p < w.1) (hc : c < 6) (hk : k < kg_nf c) (hkd : kg_kd p = (4, c)) (hf : kg_fr c k = true) (hln : Cond.fieldLink own i (kg_F c k).1 (kg_F c k).2.1 (kg_F c k).2.2.1 ∈ kg_T) (hfin : (kg_F c k).2.2.2 = false ∨ (ini = true ∧ (kg_F c k).1 = own)) (hq0 : q ≠ 0) (hq1 : q < 1000) (hd : decode cc pc = .ok (.putfield i, 3))
    (hz : (∃ t, kg_ft c k = .array t) ∨ ∃ t, kg_ft c k = .object t)
    (kk : kg_V G X nL N0 NX (pc + 3) ls st (kg_wrr w p k q) M) : kg_V G X nL N0 NX pc ls (.ref q :: .ref p :: st) w M := by
  have e : kg_cv G (.ref q) = va_rf (kg_ro (kg_b G) q) := by rw [kg_cvref G hq1]; simp [kg_ro, hq0, va_rf]
  refine kg_r_put (w' := kg_wrr w p k q) hB hp hpw hc hk hkd hln hfin hd ?_ ?_ rfl (by rw [e]; exact kg_fs_setr hf) (fun q hq => kg_ce_wrr hq) kk
  · rw [kg_cvref G hq1]; rcases hz with ⟨t, hz⟩ | ⟨t, hz⟩ <;> rw [hz] <;> rfl
  · rw [kg_cvref G hq1]; rcases hz with ⟨t, hz⟩ | ⟨t, hz⟩ <;> rw [hz] <;> rfl
theorem kg_r_iald (hB : kg_B G X own cc nL d ini N0 NX) {p n j : Nat} (hp : p < 1000) (hpw : p < w.1) (hkd : kg_kd p = (0, n)) (hj : j < n) (hn : n < 2 ^ 31) (hd : decode cc pc = .ok (.iaload, 1))
    (kk : kg_V G X nL N0 NX (pc + 1) ls (.int (M p j) :: st) w M) : kg_V G X nL N0 NX pc ls (.int (nI j) :: .ref p :: st) w M := by
  intro g1 g2 p' e R s m args below meth c' Qf hX H locs A hH hS hl
  obtain ⟨hx, hb, -, hown, hts, hI, -⟩ := hB _ _ _ _ _ _ _ _ _ _ hX
  rw [List.map_cons, List.map_cons, kg_cvref G hp]
  refine va_iald hx hb hI.1 hH.2 p 0 (by rw [kg_wl_at hpw, kg_ce_i hkd (by omega)]) rfl (vp_in_nI hj hn) hd ?_
  rw [nI_clamp (by omega)]
  exact kk g1 g2 p' e R s m args below meth c' Qf hX H locs A hH hS hl
theorem kg_r_zald (hB : kg_B G X own cc nL d ini N0 NX) {p n j : Nat} (hp : p < 1000) (hpw : p < w.1) (hkd : kg_kd p = (1, n)) (hj : j < n) (hn : n < 2 ^ 31) (hd : decode cc pc = .ok (.baload, 1))
    (kk : kg_V G X nL N0 NX (pc + 1) ls (.int (M p j) :: st) w M) : kg_V G X nL N0 NX pc ls (.int (nI j) :: .ref p :: st) w M := by
  intro g1 g2 p' e R s m args below meth c' Qf hX H locs A hH hS hl
  obtain ⟨hx, hb, -, hown, hts, hI, -⟩ := hB _ _ _ _ _ _ _ _ _ _ hX
  rw [List.map_cons, List.map_cons, kg_cvref G hp]
  refine va_zald hx hb hI.1 hH.2 p 1 (by rw [kg_wl_at hpw, kg_ce_i hkd (by omega)]) rfl (vp_in_nI hj hn) hd ?_
  rw [nI_clamp (by omega)]
  exact kk g1 g2 p' e R s m args below meth c' Qf hX H locs A hH hS hl
theorem kg_r_cald (hB : kg_B G X own cc nL d ini N0 NX) {p n j : Nat} (hp : p < 1000) (hpw : p < w.1) (hkd : kg_kd p = (2, n)) (hj : j < n) (hn : n < 2 ^ 31) (hd : decode cc pc = .ok (.caload, 1))
    (kk : kg_V G X nL N0 NX (pc + 1) ls (.int (M p j) :: st) w M) : kg_V G X nL N0 NX pc ls (.int (nI j) :: .ref p :: st) w M := by
  intro g1 g2 p' e R s m args below meth c' Qf hX H locs A hH hS hl
  obtain ⟨hx, hb, -, hown, hts, hI, -⟩ := hB _ _ _ _ _ _ _ _ _ _ hX
  rw [List.map_cons, List.map_cons, kg_cvref G hp]
  refine va_cald hx hb hI.1 hH.2 p 2 (by rw [kg_wl_at hpw, kg_ce_i hkd (by omega)]) rfl (vp_in_nI hj hn) hd ?_
  rw [nI_clamp (by omega)]
  exact kk g1 g2 p' e R s m args below meth c' Qf hX H locs A hH hS hl
theorem kg_r_aald (hB : kg_B G X own cc nL d ini N0 NX) {p n j q : Nat} (hp : p < 1000) (hpw : p < w.1) (hkd : kg_kd p = (3, n)) (hj : j < n) (hn : n < 2 ^ 31) (hq : w.2 p j = q) (hq0 : q ≠ 0) (hq1 : q < 1000) (hd : decode cc pc = .ok (.aaload, 1))
    (kk : kg_V G X nL N0 NX (pc + 1) ls (.ref q :: st) w M) : kg_V G X nL N0 NX pc ls (.int (nI j) :: .ref p :: st) w M := by
  intro g1 g2 p' e R s m args below meth c' Qf hX H locs A hH hS hl
  obtain ⟨hx, hb, -, hown, hts, hI, -⟩ := hB _ _ _ _ _ _ _ _ _ _ hX
  rw [List.map_cons, List.map_cons, kg_cvref G hp]
  refine va_aldq hx hb hI.1 hH.2 p 3 (by rw [kg_wl_at hpw, kg_ce_q hkd]) rfl (vp_in_nI hj hn) hd ?_
  rw [nI_clamp (by omega), hq]
  have h9 := kk g1 g2 p' e R s m args below meth c' Qf hX H locs A hH hS hl
  rw [List.map_cons, kg_cvref G hq1] at h9
  simpa [kg_ro, hq0, va_rf] using h9
theorem kg_S_put {A : Nat → Prop} {H0 H H1 : Heap} {locs : List Loc} {b p k : Nat} (hS : va_S (fun q => b ≤ q) H0 H locs) (z : H1.size = H.size) (oq : ∀ q : Nat, q ≠ b + p → H1[q]? = H[q]?) : va_S (fun q => b ≤ q) H0 H1 (locs ++ [⟨b + p, k⟩]) := hS.put z oq (Nat.le_add_right b p)
theorem kg_r_iast (hB : kg_B G X own cc nL d ini N0 NX) {p n j : Nat} {x : Int32} (hp : p < 1000) (hpw : p < w.1) (hkd : kg_kd p = (0, n)) (hj : j < n) (hn : n < 2 ^ 31) (hd : decode cc pc = .ok (.iastore, 1))
    (kk : kg_V G X nL N0 NX (pc + 1) ls st w (kg_wr M p j x)) : kg_V G X nL N0 NX pc ls (.int x :: .int (nI j) :: .ref p :: st) w M := by
  intro g1 g2 p' e R s m args below meth c' Qf hX H locs A hH hS hl
  obtain ⟨hx, hb, -, hown, hts, hI, -⟩ := hB _ _ _ _ _ _ _ _ _ _ hX
  rw [List.map_cons, List.map_cons, List.map_cons, kg_cvref G hp]
  refine W.iast hx hb (hH.2 p (kg_b G + p, .inl (G.2.2.2.1 0, n, .inl (M p))) (by rw [kg_wl_at hpw, kg_ce_i hkd (by omega)])) ((hI.1.2 0 _ rfl).1 n (fun j => .int (M p j))) (fun q => by cases q) (by show ¬ (nI j < 0 ∨ (arrV _ _ _).slots.size ≤ _); rw [arrV_size]; exact vp_in_nI hj hn) rfl rfl hd fun H1 e1 z oq => ?_
  refine kk g1 g2 p' e R s m args below meth c' Qf hX H1 _ A (kg_WH_put hH rfl hpw z oq ?_ (fun q hq => kg_ce_wr hq)) (kg_S_put (A := kg_A G) hS z oq) hl
  rw [kg_ce_i hkd (by omega)]
  show H1[kg_b G + p]? = some (vp_cell _ _)
  rw [e1, vp_cell_i, vp_cell_i, arrV_store, kg_wr_upd, nI_clamp (by omega)]
  congr 2
  funext q
  by_cases hq : q = j <;> simp [updV, upd, hq]
theorem kg_r_zast (hB : kg_B G X own cc nL d ini N0 NX) {p n j : Nat} {x : Int32} (hp : p < 1000) (hpw : p < w.1) (hkd : kg_kd p = (1, n)) (hj : j < n) (hn : n < 2 ^ 31) (h01 : x = 0 ∨ x = 1) (hd : decode cc pc = .ok (.bastore, 1))
    (kk : kg_V G X nL N0 NX (pc + 1) ls st w (kg_wr M p j x)) : kg_V G X nL N0 NX pc ls (.int x :: .int (nI j) :: .ref p :: st) w M := by
  intro g1 g2 p' e R s m args below meth c' Qf hX H locs A hH hS hl
  obtain ⟨hx, hb, -, hown, hts, hI, -⟩ := hB _ _ _ _ _ _ _ _ _ _ hX
  rw [List.map_cons, List.map_cons, List.map_cons, kg_cvref G hp]
  refine W.zast hx hb (hH.2 p (kg_b G + p, .inl (G.2.2.2.1 1, n, .inl (M p))) (by rw [kg_wl_at hpw, kg_ce_i hkd (by omega)])) ((hI.1.2 1 _ rfl).1 n (fun j => .int (M p j))) (fun q => by cases q) (by show ¬ (nI j < 0 ∨ (arrV _ _ _).slots.size ≤ _); rw [arrV_size]; exact vp_in_nI hj hn) rfl rfl hd fun H1 e1 z oq => ?_
  refine kk g1 g2 p' e R s m args below meth c' Qf hX H1 _ A (kg_WH_put hH rfl hpw z oq ?_ (fun q hq => kg_ce_wr hq)) (kg_S_put (A := kg_A G) hS z oq) hl
  rw [kg_ce_i hkd (by omega)]
  have e2 : narrow .boolean (.int x) = .int x := by rcases h01 with rfl | rfl <;> rfl
  show H1[kg_b G + p]? = some (vp_cell _ _)
  rw [e1, e2, vp_cell_i, vp_cell_i, arrV_store, kg_wr_upd, nI_clamp (by omega)]
  congr 2
  funext q
  by_cases hq : q = j <;> simp [updV, upd, hq]
theorem kg_r_cast (hB : kg_B G X own cc nL d ini N0 NX) {p n j x : Nat} (hp : p < 1000) (hpw : p < w.1) (hkd : kg_kd p = (2, n)) (hj : j < n) (hn : n < 2 ^ 31) (h01 : x < 65536) (hd : decode cc pc = .ok (.castore, 1))
    (kk : kg_V G X nL N0 NX (pc + 1) ls st w (kg_wr M p j (nI x))) : kg_V G X nL N0 NX pc ls (.int (nI x) :: .int (nI j) :: .ref p :: st) w M := by
  intro g1 g2 p' e R s m args below meth c' Qf hX H locs A hH hS hl
  obtain ⟨hx, hb, -, hown, hts, hI, -⟩ := hB _ _ _ _ _ _ _ _ _ _ hX
  rw [List.map_cons, List.map_cons, List.map_cons, kg_cvref G hp]
  refine W.cast hx hb (hH.2 p (kg_b G + p, .inl (G.2.2.2.1 2, n, .inl (M p))) (by rw [kg_wl_at hpw, kg_ce_i hkd (by omega)])) ((hI.1.2 2 _ rfl).1 n (fun j => .int (M p j))) (fun q => by cases q) (by show ¬ (nI j < 0 ∨ (arrV _ _ _).slots.size ≤ _); rw [arrV_size]; exact vp_in_nI hj hn) rfl rfl hd fun H1 e1 z oq => ?_
  refine kk g1 g2 p' e R s m args below meth c' Qf hX H1 _ A (kg_WH_put hH rfl hpw z oq ?_ (fun q hq => kg_ce_wr hq)) (kg_S_put (A := kg_A G) hS z oq) hl
  rw [kg_ce_i hkd (by omega)]
  have e2 : narrow .char (.int (nI x)) = .int (nI x) := (pk_charN h01).1
  show H1[kg_b G + p]? = some (vp_cell _ _)
  rw [e1, e2, vp_cell_i, vp_cell_i, arrV_store, kg_wr_upd, nI_clamp (by omega)]
  congr 2
  funext q
  by_cases hq : q = j <;> simp [updV, upd, hq]
theorem kg_r_aast (hB : kg_B G X own cc nL d ini N0 NX) {p n j q : Nat} (hp : p < 1000) (hpw : p < w.1) (hkd : kg_kd p = (3, n)) (hj : j < n) (hn : n < 2 ^ 31) (hq0 : q ≠ 0) (hq1 : q < 1000) (hqw : q < w.1) (hqk : kg_kd q = (4, 4)) (hd : decode cc pc = .ok (.aastore, 1))
    (kk : kg_V G X nL N0 NX (pc + 1) ls st (kg_wrr w p j q) M) : kg_V G X nL N0 NX pc ls (.ref q :: .int (nI j) :: .ref p :: st) w M := by
  intro g1 g2 p' e R s m args below meth c' Qf hX H locs A hH hS hl
  obtain ⟨hx, hb, -, hown, hts, hI, -⟩ := hB _ _ _ _ _ _ _ _ _ _ hX
  rw [List.map_cons, List.map_cons, List.map_cons, kg_cvref G hp, kg_cvref G hq1]
  obtain ⟨r', hr', cellV, s1, s2, s3, -⟩ := hH.2 q (kg_b G + q, .inr (4, kg_fs (kg_b G) w M q 4)) (by rw [kg_wl_at hqw, kg_ce_o hqk])
  have hcls := (hI.1.1 4 _ (kg_F_cl (c := 4) (by omega))).2
  obtain ⟨kA, comp, k1, k2, k3, -⟩ := (hI.1.2 3 _ rfl).2
  have hcomp : comp = G.2.2.1.1 4 := Option.some.inj (k3.symm.trans hcls.1)
  subst hcomp
  obtain ⟨kC, hkC, -⟩ := hcls.2
  refine W.aast hx hb (hH.2 p (kg_b G + p, .inl (G.2.2.2.1 3, n, .inr (.inr (.inr (.inr (fun i => kg_ro (kg_b G) (w.2 p i))))))) (by rw [kg_wl_at hpw, kg_ce_q hkd])) (fun q h => by cases h) (fun h => by cases h) k1 k2 rfl hkC ⟨(nI_pos (by omega)), by show _ < (arrV _ _ _).slots.size; rw [arrV_size, nI_clamp (by omega)]; exact hj⟩ s1 (fun q h => by rw [s3] at h; cases h) (by rw [s2]; exact hkC) (by rw [s2]; exact va_assign hcls) rfl rfl hd fun H1 e1 z oq => ?_
  have g1' : N0 ≤ (kg_wrr w p j q).1 := g1
  refine kk g1 g2 p' e R s m args below meth c' Qf hX H1 _ A (kg_WH_put hH rfl hpw z oq ?_ (fun q hq => kg_ce_wrr hq)) (kg_S_put (A := kg_A G) hS z oq) hl
  rw [kg_ce_q hkd]
  show H1[kg_b G + p]? = some (vp_cell _ _)
  rw [e1, vp_cell_q, vp_cell_q, arrV_store, nI_clamp (by omega)]
  congr 2
  funext i
  by_cases hi : i = j <;> simp [updV, hi, kg_wrr, kg_ro, hq0, va_rf]
end
end
section
/-! ROWS of statics, the script, what is made, Math, arraycopy -/
theorem kg_cats (G : kg_G) (st : List Value) : ((st.map (kg_cv G)).map fun v => v.category).sum = st.length := by
  induction st with
  | nil => rfl
  | cons a l ih => rw [List.map_cons, List.map_cons, List.sum_cons, ih, kg_cat, List.length_cons]; omega
section
variable {G : kg_G} {X : kg_Xt} {own : String} {cc : ByteArray} {nL d : Nat} {ini : Bool} {N0 NX : Nat} {pc : Nat} {ls : List (Option Value)} {st : List Value} {w : kg_W} {M : kg_M}
theorem kg_cvst (G : kg_G) {p : Nat} (h : ¬ p < 1000) : kg_cv G (.ref p) = .ref (G.2.2.2.2.1 (p - 1000)) := by simp [kg_cv, h]
theorem kg_r_gets (hB : kg_B G X own cc nL d ini N0 NX) {p i : Nat} (hp : p ∈ [1001, 1002, 1003]) (hln : Cond.fieldLink own i "KeyGraves" (kg_sn p) "[I" ∈ kg_T ∨ (own = "KeyGraves$State" ∧ i = 56 ∧ p = 1003)) (hd : decode cc pc = .ok (.getstatic i, 3))
    (kk : kg_V G X nL N0 NX (pc + 3) ls (.ref p :: st) w M) : kg_V G X nL N0 NX pc ls st w M := by
  intro g1 g2 p' e R s m args below meth c' Qf hX H locs A hH hS hl
  obtain ⟨hx, hb, -, hown, hts, hI, hSt, -⟩ := hB _ _ _ _ _ _ _ _ _ _ hX
  have hp0 : ¬ p < 1000 := by simp at hp; omega
  have k2 := kk g1 g2 p' e R s m args below meth c' Qf hX H locs A hH hS hl
  rw [List.map_cons, kg_cvst G hp0] at k2
  rcases hln with hln | ⟨rfl, rfl, rfl⟩
  · exact va_gets hx hb (hSt.1 p hp).1 hS hown (hts _ hln) (fun _ h => h) hd k2
  · exact va_getsN hx hb (hSt.1 1003 hp).1 hS hown (va_Nw.use rfl hI.2.2.1) (fun _ h => h) hd k2
theorem kg_r_ilds (hB : kg_B G X own cc nL d ini N0 NX) {p j : Nat} (hp : p ∈ [1001, 1002, 1003]) (hj : j < 5) (hd : decode cc pc = .ok (.iaload, 1))
    (kk : kg_V G X nL N0 NX (pc + 1) ls (.int (kg_sv p j) :: st) w M) : kg_V G X nL N0 NX pc ls (.int (nI j) :: .ref p :: st) w M := by
  intro g1 g2 p' e R s m args below meth c' Qf hX H locs A hH hS hl
  obtain ⟨hx, hb, -, hown, hts, hI, hSt, -⟩ := hB _ _ _ _ _ _ _ _ _ _ hX
  have hp0 : ¬ p < 1000 := by simp at hp; omega
  rw [List.map_cons, List.map_cons, kg_cvst G hp0]
  exact va_ti hx hb (hSt.1 p hp).2 hS (vp_in_nI hj (by omega)) (by rw [nI_clamp (by omega)]; rfl) hd (kk g1 g2 p' e R s m args below meth c' Qf hX H locs A hH hS hl)
theorem kg_r_ildx (hB : kg_B G X own cc nL d ini N0 NX) {j : Nat} (hj : j < G.2.2.2.2.2.1) (hL : G.2.2.2.2.2.1 < 2 ^ 31) (hd : decode cc pc = .ok (.iaload, 1))
    (kk : kg_V G X nL N0 NX (pc + 1) ls (.int (G.2.2.2.2.2.2 j) :: st) w M) : kg_V G X nL N0 NX pc ls (.int (nI j) :: .ref 1000 :: st) w M := by
  intro g1 g2 p' e R s m args below meth c' Qf hX H locs A hH hS hl
  obtain ⟨hx, hb, -, hown, hts, hI, hSt, hbs, -⟩ := hB _ _ _ _ _ _ _ _ _ _ hX
  rw [List.map_cons, List.map_cons, kg_cvst G (by omega)]
  refine va_sld (b := G.2.2.2.2.1 0) hx hb hSt.2.1 (Nat.lt_of_lt_of_le hSt.2.2 hbs) (Nat.not_le.mpr hSt.2.2) hS (vp_in_nI hj hL) hd ?_
  rw [nI_clamp (by omega)]
  exact kk g1 g2 p' e R s m args below meth c' Qf hX H locs A hH hS hl
theorem kg_r_slen (hB : kg_B G X own cc nL d ini N0 NX) (hd : decode cc pc = .ok (.arraylength, 1))
    (kk : kg_V G X nL N0 NX (pc + 1) ls (.int (nI G.2.2.2.2.2.1) :: st) w M) : kg_V G X nL N0 NX pc ls (.ref 1000 :: st) w M := by
  intro g1 g2 p' e R s m args below meth c' Qf hX H locs A hH hS hl
  obtain ⟨hx, hb, -, hown, hts, hI, hSt, hbs, -⟩ := hB _ _ _ _ _ _ _ _ _ _ hX
  rw [List.map_cons, kg_cvst G (by omega)]
  exact va_slen (b := G.2.2.2.2.1 0) hx hb hSt.2.1 (Nat.lt_of_lt_of_le hSt.2.2 hbs) (Nat.not_le.mpr hSt.2.2) hS hd (kk g1 g2 p' e R s m args below meth c' Qf hX H locs A hH hS hl)
theorem kg_r_mmin (hB : kg_B G X own cc nL d ini N0 NX) {i : Nat} {x y : Int32} (hd0 : 1 ≤ d) (hst : st.length ≤ 8) (h1 : Cond.methodLink own i Lib.Math.min.name ∈ kg_T) (h2 : Cond.static Lib.Math.min.name ∈ kg_T) (h3 : Cond.initialized "java/lang/Math" ∈ kg_T) (h4 : Cond.code Lib.Math.min.name Lib.Math.min.code 2 (some .int) ∈ kg_T) (hd : decode cc pc = .ok (.invokestatic i, 3))
    (kk : kg_V G X nL N0 NX (pc + 3) ls (.int (if y < x then y else x) :: st) w M) : kg_V G X nL N0 NX pc ls (.int y :: .int x :: st) w M := by
  intro g1 g2 p' e R s m args below meth c' Qf hX H locs A hH hS hl
  obtain ⟨hx, hb, hml, hown, hts, hI, hSt, hbs, ⟨hf1, hf2⟩, ⟨hc1, hc2⟩, -⟩ := hB _ _ _ _ _ _ _ _ _ _ hX
  exact va_mmin hx hb (hml.trans hl.1.symm) hown (hts _ h1) (hts _ h2) (hts _ h3) (hts _ h4) (Nat.le_trans hd0 hf1) (by rw [kg_cats]; omega) (Nat.le_trans (Nat.sub_le_sub_right g2 _) hc1) (Nat.le_trans (Nat.sub_le_sub_right (kg_sz_mono g2) _) hc2) hd (kk g1 g2 p' e R s m args below meth c' Qf hX H locs A hH hS hl)
theorem kg_r_mmax (hB : kg_B G X own cc nL d ini N0 NX) {i : Nat} {x y : Int32} (hd0 : 1 ≤ d) (hst : st.length ≤ 8) (h1 : Cond.methodLink own i Lib.Math.max.name ∈ kg_T) (h2 : Cond.static Lib.Math.max.name ∈ kg_T) (h3 : Cond.initialized "java/lang/Math" ∈ kg_T) (h4 : Cond.code Lib.Math.max.name Lib.Math.max.code 2 (some .int) ∈ kg_T) (hd : decode cc pc = .ok (.invokestatic i, 3))
    (kk : kg_V G X nL N0 NX (pc + 3) ls (.int (if x < y then y else x) :: st) w M) : kg_V G X nL N0 NX pc ls (.int y :: .int x :: st) w M := by
  intro g1 g2 p' e R s m args below meth c' Qf hX H locs A hH hS hl
  obtain ⟨hx, hb, hml, hown, hts, hI, hSt, hbs, ⟨hf1, hf2⟩, ⟨hc1, hc2⟩, -⟩ := hB _ _ _ _ _ _ _ _ _ _ hX
  exact va_mmax hx hb (hml.trans hl.1.symm) hown (hts _ h1) (hts _ h2) (hts _ h3) (hts _ h4) (Nat.le_trans hd0 hf1) (by rw [kg_cats]; omega) (Nat.le_trans (Nat.sub_le_sub_right g2 _) hc1) (Nat.le_trans (Nat.sub_le_sub_right (kg_sz_mono g2) _) hc2) hd (kk g1 g2 p' e R s m args below meth c' Qf hX H locs A hH hS hl)
/-- a row of ints copied onto another, the first n -/
def kg_cpy (M : kg_M) (p q n : Nat) : kg_M := fun r => if r = q then (fun i => if i < n then M p i else M q i) else M r
theorem kg_r_copy (hB : kg_B G X own cc nL d ini N0 NX) {i p q n n0 n1 : Nat} (hw9 : ¬ w.1 < 125) (hd0 : 1 ≤ d) (hst : st.length ≤ 6) (h1 : Cond.methodLink own i arraycopyName ∈ kg_T) (h2 : Cond.native arraycopyName ∈ kg_T) (h3 : Cond.static arraycopyName ∈ kg_T) (h4 : Cond.initialized "java/lang/System" ∈ kg_T) (hp : p < 1000) (hpw : p < w.1) (hpk : kg_kd p = (0, n0)) (hq : q < 1000) (hqw : q < w.1) (hqk : kg_kd q = (0, n1)) (hn0 : n ≤ n0) (hn1 : n ≤ n1) (hn : n < 2 ^ 31) (hd : decode cc pc = .ok (.invokestatic i, 3))
    (kk : kg_V G X nL N0 NX (pc + 3) ls st w (kg_cpy M p q n)) : kg_V G X nL N0 NX pc ls (.int (nI n) :: .int (nI 0) :: .ref q :: .int (nI 0) :: .ref p :: st) w M := by
  intro g1 g2 p' e R s m args below meth c' Qf hX H locs A hH hS hl
  obtain ⟨hx, hb, hml, hown, hts, hI, hSt, hbs, ⟨hf1, hf2⟩, ⟨hc1, hc2⟩, -⟩ := hB _ _ _ _ _ _ _ _ _ _ hX
  simp only [List.map_cons]
  rw [kg_cvref G hp, kg_cvref G hq]
  refine va_copyi hx hb (hml.trans hl.1.symm) hown (hts _ h1) (hts _ h2) (hts _ h3) (hts _ h4) hI.1 hH.2 (kg_dis G w M) hS p q 0 0 (f := M p) (g := M q) (by rw [kg_wl_at hpw, kg_ce_i hpk (by omega)]) (by rw [kg_wl_at hqw, kg_ce_i hqk (by omega)]) rfl rfl rfl (sp := nI 0) (dp := nI 0) (n := nI n) (nI_pos (by omega)) (nI_pos (by omega)) (nI_pos hn) (by rw [nI_clamp (by omega), nI_clamp hn]; omega) (by rw [nI_clamp (by omega), nI_clamp hn]; omega) (fun _ _ => rfl) (Nat.le_trans hd0 hf1) (by rw [kg_cats]; simp [nativeFrameWords]; omega) hd (fun H1 locs1 hP1 _ hS1 => ?_)
  refine kk g1 g2 p' e R s m args below meth c' Qf hX H1 locs1 A ⟨fun h => absurd h hw9, ?_⟩ hS1 hl
  rw [← kg_wl_set (M := M) (w := w) (p := q) (e := .inl (G.2.2.2.1 0, n1, .inl (va_cpy (M p) (M q) (nI 0).toNatClampNeg (nI 0).toNatClampNeg (nI n).toNatClampNeg))) rfl ?_ (fun r hr => kg_ce_same (by simp [kg_cpy, hr]) rfl)]
  · exact hP1
  · rw [kg_ce_i hqk (by omega)]
    congr 4
    funext k
    rw [nI_clamp hn, nI_clamp (by omega)]
    by_cases hk : k < n <;> simp [va_cpy, kg_cpy, hk]
theorem kg_r_obj (hB : kg_B G X own cc nL d ini N0 NX) {i p : Nat} (hd0 : 1 ≤ d) (hst : st.length ≤ 8) (h1 : Cond.methodLink own i Lib.objectInit ∈ kg_T) (h2 : Cond.instanceMethod Lib.objectInit ∈ kg_T) (h3 : Cond.code Lib.objectInit ⟨#[0xb1]⟩ 1 none ∈ kg_T) (hd : decode cc pc = .ok (.invokespecial i, 3))
    (kk : kg_V G X nL N0 NX (pc + 3) ls st w M) : kg_V G X nL N0 NX pc ls (.ref p :: st) w M := by
  intro g1 g2 p' e R s m args below meth c' Qf hX H locs A hH hS hl
  obtain ⟨hx, hb, hml, hown, hts, hI, hSt, hbs, ⟨hf1, hf2⟩, ⟨hc1, hc2⟩, -⟩ := hB _ _ _ _ _ _ _ _ _ _ hX
  have k2 := kk g1 g2 p' e R s m args below meth c' Qf hX H locs A hH hS hl
  have hr := kg_cats G st
  refine W.objInit hx hb hown (hts _ h1) (hts _ h2) (hts _ h3) rfl (hl.1.trans hml.symm) (rest := st.map (kg_cv G)) (a := if p < 1000 then kg_b G + p else G.2.2.2.2.1 (p - 1000)) rfl hd (Nat.le_trans hd0 hf1) ?_ ?_
  · show 2 * 0 + _ + 12 ≤ _
    rw [hr]; omega
  · exact k2
/-- a cell is made: the next place -/
theorem kg_WH_new {w w' : kg_W} {M M' : kg_M} {H H1 : Heap} (hH : kg_WH G w M H) (h9 : w.1 < 125) (hw : w'.1 = w.1 + 1) (z : H1.size = H.size + 1) (oq : ∀ q : Nat, q < H.size → H1[q]? = H[q]?) (he : va_at G.2.2.1 vwCl (kg_b G + w.1, kg_ce (kg_b G) G.2.2.2.1 w' M' w.1) H1) (ho : ∀ q, q < w.1 → kg_ce (kg_b G) G.2.2.2.1 w' M' q = kg_ce (kg_b G) G.2.2.2.1 w M q) : kg_WH G w' M' H1 := by
  refine ⟨fun _ => by rw [z, hH.1 h9, hw]; omega, fun k q hk => ?_⟩
  obtain ⟨h1, h2⟩ := kg_wl_of hk
  subst h2
  by_cases hkw : k = w.1
  · subst hkw; exact he
  · have hlt : k < w.1 := by omega
    rw [ho k hlt]
    have h3 := hH.2 k _ (kg_wl_at hlt)
    exact h3.kept (oq _ h3.lt)
def kg_new (w : kg_W) (r : Nat → Nat) : kg_W := (w.1 + 1, fun q => if q = w.1 then r else w.2 q)
def kg_row (M : kg_M) (p : Nat) (f : Nat → Int32) : kg_M := fun q => if q = p then f else M q
theorem kg_ce_new {b : Nat} {cA : Nat → ClassId} {w : kg_W} {M : kg_M} {r : Nat → Nat} {f : Nat → Int32} {q : Nat} (h : q ≠ w.1) : kg_ce b cA (kg_new w r) (kg_row M w.1 f) q = kg_ce b cA w M q := kg_ce_same (by simp [kg_row, h]) (by simp [kg_new, h])
theorem kg_S_new {b : Nat} {H0 H H1 : Heap} {locs : List Loc} (hS : va_S (fun q => b ≤ q) H0 H locs) (z : H1.size = H.size + 1) (oq : ∀ q : Nat, q < H.size → H1[q]? = H[q]?) : va_S (fun q => b ≤ q) H0 H1 locs := ⟨by rw [z]; exact Nat.le_trans hS.1 (Nat.le_succ _), fun q a1 a2 => (oq q (Nat.lt_of_lt_of_le a1 hS.1)).trans (hS.2.1 q a1 a2), hS.2.2⟩
theorem kg_r_new (hB : kg_B G X own cc nL d ini N0 NX) {c i : Nat} (h9 : w.1 < 125) (hNX : w.1 + 1 ≤ NX) (hc : c < 6) (hkd : kg_kd w.1 = (4, c)) (h1 : Cond.classLink own i (kg_C c) ∈ kg_T) (h2 : Cond.instantiable (kg_C c) (kg_nf c) ∈ kg_T) (h3 : Cond.initialized (kg_C c) ∈ kg_T) (hdef : ∀ k, k < kg_nf c → defaultValue (kg_ft c k) = if kg_fr c k = true then .null else .int 0) (hd : decode cc pc = .ok (.new i, 3))
    (kk : kg_V G X nL N0 NX (pc + 3) ls (.ref w.1 :: st) (kg_new w (fun _ => 0)) (kg_row M w.1 (fun _ => 0))) : kg_V G X nL N0 NX pc ls st w M := by
  intro g1 g2 p' e R s m args below meth c' Qf hX H locs A hH hS hl
  obtain ⟨hx, hb, hml, hown, hts, hI, hSt, hbs, ⟨hf1, hf2⟩, ⟨hc1, hc2⟩, -⟩ := hB _ _ _ _ _ _ _ _ _ _ hX
  have hKn := hI.1.1 c _ (kg_F_cl hc)
  have zs : kg_zs w.1 = kg_nf c := by simp [kg_zs, hkd]
  have m0 := kg_sz_mono g1
  have m1 := kg_sz_mono hNX
  have e0 : kg_sz (w.1 + 1) = kg_sz w.1 + kg_nf c := by rw [kg_sz, zs]
  refine W.newcK hx hb hown (hts _ h1) (hts _ h2) (hts _ h3) rfl hd (by omega) (by omega) hKn.2.1 (hH.1 h9) fun H1 kC hkC e1 z1 o1 => ?_
  have g1' : N0 ≤ (kg_new w (fun _ => 0)).1 := Nat.le_succ_of_le g1
  have g2' : (kg_new w (fun _ => 0)).1 ≤ NX := hNX
  have hz : H1.size = H.size + 1 := by rw [z1, hH.1 h9]
  have ho : ∀ q : Nat, q < H.size → H1[q]? = H[q]? := fun q hq => o1 q (by rw [← hH.1 h9]; exact hq)
  have k2 := kk g1' g2' p' e R s m args below meth c' Qf hX H1 locs A (kg_WH_new hH h9 rfl hz ho ?_ (fun q hq => kg_ce_new (Nat.ne_of_lt hq))) (kg_S_new hS hz ho) hl
  · rw [List.map_cons, kg_cvref G (by omega), show (kg_new w (fun _ => 0)).1 = w.1 + 1 from rfl, e0, show w.1 + 1 - N0 = w.1 - N0 + 1 by omega, show kg_sz w.1 + kg_nf c - kg_sz N0 = kg_sz w.1 - kg_sz N0 + kg_nf c by omega] at k2
    exact k2
  · rw [kg_ce_o hkd]
    refine ⟨_, kg_F_cl hc, (u_born (kg_ft c) hts (kg_F_in hc) hKn hkC e1 (kg_F_ty hc)).to fun k hk => ?_⟩
    show defaultValue (kg_ft c k) = vp_V _ k
    rw [hdef k hk, vp_V, List.getD_eq_getElem?_getD, kg_fs_at hk]
    by_cases hf : kg_fr c k = true <;> simp [hf, kg_new, kg_row, kg_ro, va_rf]
theorem kg_r_newa (hB : kg_B G X own cc nL d ini N0 NX) {t n : Nat} {aty : ArrayType} {ty : FieldType} (h9 : w.1 < 125) (hNX : w.1 + 1 ≤ NX) (hkd : kg_kd w.1 = (t, n)) (ht : t < 3) (hty : newarray.typeOf aty = ty) (htt : (kg_tys G.2.2.2.1)[t]? = some (G.2.2.2.1 t, ty)) (hra : ∀ (U : State) (cA : ClassId), va_RA U cA ty → U.vm.findClass ("[" ++ ty.toString) = some cA) (hdv : defaultValue ty = .int 0) (hn : n < 2 ^ 20) (hcb : componentBytes ty ≤ 8) (h1 : Cond.arrayClass ty ∈ kg_T) (hd : decode cc pc = .ok (.newarray aty, 2))
    (kk : kg_V G X nL N0 NX (pc + 2) ls (.ref w.1 :: st) (kg_new w (fun _ => 0)) (kg_row M w.1 (fun _ => 0))) : kg_V G X nL N0 NX pc ls (.int (nI n) :: st) w M := by
  intro g1 g2 p' e R s m args below meth c' Qf hX H locs A hH hS hl
  obtain ⟨hx, hb, hml, hown, hts, hI, hSt, hbs, ⟨hf1, hf2⟩, ⟨hc1, hc2⟩, -⟩ := hB _ _ _ _ _ _ _ _ _ _ hX
  subst hty
  have zs : kg_zs w.1 = n := by simp only [kg_zs, hkd]; rw [if_neg (by omega)]
  have m0 := kg_sz_mono g1
  have m1 := kg_sz_mono hNX
  have e0 : kg_sz (w.1 + 1) = kg_sz w.1 + n := by rw [kg_sz, zs]
  have hb8 : n * componentBytes (newarray.typeOf aty) ≤ 2 ^ 20 * 8 := Nat.mul_le_mul (Nat.le_of_lt hn) hcb
  rw [List.map_cons]
  refine va_newaK hx hb (atype := aty) (hts _ h1) rfl hd rfl (nI_pos (by omega)) (nI_clamp (n := n) (by omega)) (by omega) (by omega) (by omega) (hH.1 h9) fun H1 cA e1 z1 o1 hAr hNm => ?_
  have hcA : cA = G.2.2.2.1 t := Option.some.inj (hNm.symm.trans (hra s _ (hI.1.2 t _ htt).2))
  subst hcA
  have g1' : N0 ≤ (kg_new w (fun _ => 0)).1 := Nat.le_succ_of_le g1
  have g2' : (kg_new w (fun _ => 0)).1 ≤ NX := hNX
  have hz : H1.size = H.size + 1 := by rw [z1, hH.1 h9]
  have ho : ∀ q : Nat, q < H.size → H1[q]? = H[q]? := fun q hq => o1 q (by rw [← hH.1 h9]; exact hq)
  have k2 := kk g1' g2' p' e R s m args below meth c' Qf hX H1 locs A (kg_WH_new hH h9 rfl hz ho ?_ (fun q hq => kg_ce_new (Nat.ne_of_lt hq))) (kg_S_new hS hz ho) hl
  · rw [List.map_cons, kg_cvref G (by omega), show (kg_new w (fun _ => 0)).1 = w.1 + 1 from rfl, e0, show w.1 + 1 - N0 = w.1 - N0 + 1 by omega, show kg_sz w.1 + n - kg_sz N0 = kg_sz w.1 - kg_sz N0 + n by omega] at k2
    exact k2
  · rw [kg_ce_i hkd ht]
    show H1[_]? = some (vp_cell _ _)
    rw [e1, vp_cell_i, hdv]
    simp [kg_row]
theorem kg_r_anew (hB : kg_B G X own cc nL d ini N0 NX) {i n : Nat} (h9 : w.1 < 125) (hNX : w.1 + 1 ≤ NX) (hkd : kg_kd w.1 = (3, n)) (hn : n < 2 ^ 20) (h1 : Cond.classLink own i "KeyGraves$State" ∈ kg_T) (hd : decode cc pc = .ok (.anewarray i, 3))
    (kk : kg_V G X nL N0 NX (pc + 3) ls (.ref w.1 :: st) (kg_new w (fun _ => 0)) (kg_row M w.1 (fun _ => 0))) : kg_V G X nL N0 NX pc ls (.int (nI n) :: st) w M := by
  intro g1 g2 p' e R s m args below meth c' Qf hX H locs A hH hS hl
  obtain ⟨hx, hb, hml, hown, hts, hI, hSt, hbs, ⟨hf1, hf2⟩, ⟨hc1, hc2⟩, -⟩ := hB _ _ _ _ _ _ _ _ _ _ hX
  have zs : kg_zs w.1 = n := by simp only [kg_zs, hkd]; rw [if_neg (by omega)]
  have m0 := kg_sz_mono g1
  have m1 := kg_sz_mono hNX
  have e0 : kg_sz (w.1 + 1) = kg_sz w.1 + n := by rw [kg_sz, zs]
  rw [List.map_cons]
  have hcl : (nI n).toNatClampNeg = n := nI_clamp (by omega)
  refine W.anew hx hb hown (hts _ h1) (va_AO.use hI.2.2.2) rfl hd rfl (nI_pos (by omega)) (by rw [hcl]; omega) (by omega) (by rw [hcl]; omega) fun cA kA comp f1 f2 f3 f4 => ?_
  have hcA : cA = G.2.2.2.1 3 := by
    obtain ⟨kA', comp', -, -, -, k4⟩ := (hI.1.2 3 _ rfl).2
    exact Option.some.inj (f1.symm.trans k4)
  subst hcA
  rw [hcl]
  generalize hH1 : H.push ({ cls := G.2.2.2.1 3, slots := Array.replicate n .null, vm := .none } : Cell) = H1
  have hz : H1.size = H.size + 1 := by rw [← hH1, Array.size_push]
  have e1 : H1[H.size]? = some (arrV (G.2.2.2.1 3) n (fun _ => .null)) := by rw [← hH1, Array.getElem?_push_size, ← arrV_new]
  have ho : ∀ q : Nat, q < H.size → H1[q]? = H[q]? := fun q hq => by rw [← hH1, Array.getElem?_push, if_neg (Nat.ne_of_lt hq)]
  have g1' : N0 ≤ (kg_new w (fun _ => 0)).1 := Nat.le_succ_of_le g1
  have g2' : (kg_new w (fun _ => 0)).1 ≤ NX := hNX
  have k2 := kk g1' g2' p' e R s m args below meth c' Qf hX H1 locs A (kg_WH_new hH h9 rfl hz ho ?_ (fun q hq => kg_ce_new (Nat.ne_of_lt hq))) (kg_S_new hS hz ho) hl
  · rw [List.map_cons, kg_cvref G (by omega), show (kg_new w (fun _ => 0)).1 = w.1 + 1 from rfl, e0, show w.1 + 1 - N0 = w.1 - N0 + 1 by omega, show kg_sz w.1 + n - kg_sz N0 = kg_sz w.1 - kg_sz N0 + n by omega] at k2
    rw [hH.1 h9]
    exact k2
  · rw [kg_ce_q hkd]
    show H1[_]? = some (vp_cell _ _)
    rw [← hH.1 h9, e1, vp_cell_q]
    simp [kg_new, kg_ro, va_rf]
end
end
section
/-! TABLES: the methods by number, field links, method links (printed by wip/whole/gen06.py) -/
def kg_ms : List (MethodName × ByteArray × Nat × Option FieldType) := [(yX0_init, cX0_init, 1, none), (yX0_copyFrom, cX0_copyFrom, 2, none), (yX0_add, cX0_add, 5, none), (yX0_init, cX0_init, 1, none), (yX1_init, cX1_init, 1, none), (yX1_copyFrom, cX1_copyFrom, 2, none), (yX1_put, cX1_put, 5, none), (yX1_kindAt, cX1_kindAt, 2, (some .int)), (yX1_take, cX1_take, 4, none), (yX1_valueAt, cX1_valueAt, 2, (some .int)), (yX1_forget, cX1_forget, 2, none), (yX2_init, cX2_init, 1, none), (yX2_copyFrom, cX2_copyFrom, 2, none), (yX2_add, cX2_add, 4, none), (yX3_init, cX3_init, 1, none), (yX3_init, cX3_init, 1, none), (yX3_init, cX3_init, 1, none), (yX3_init, cX3_init, 1, none), (yX3_init, cX3_init, 1, none), (yX3_init, cX3_init, 1, none), (yX3_init, cX3_init, 1, none), (yX4_init, cX4_init, 2, none), (yX4_copyFrom, cX4_copyFrom, 3, none), (yX4_nodesUp, cX4_nodesUp, 3, (some .int)), (yX4_spread, cX4_spread, 5, (some .int)), (yX4_reach, cX4_reach, 5, none), (yX4_newestReached, cX4_newestReached, 5, (some .int)), (yX4_stampOf, cX4_stampOf, 3, (some .int)), (yX4_reachedDiffer, cX4_reachedDiffer, 4, (some .boolean)), (yX4_mend, cX4_mend, 4, none), (yX4_learn, cX4_learn, 5, none), (yX4_isHaunted, cX4_isHaunted, 3, (some .boolean)), (yX4_isGrave, cX4_isGrave, 3, (some .boolean)), (yX4_join, cX4_join, 5, (some .int)), (yX4_logPair, cX4_logPair, 4, none), (yX4_keysKnownOtherwise, cX4_keysKnownOtherwise, 5, (some .int)), (yX4_clearableGraves, cX4_clearableGraves, 4, (some .int)), (yX4_isClearable, cX4_isClearable, 3, (some .boolean)), (yX4_isRipe, cX4_isRipe, 3, (some .boolean)), (yX4_ticksSince, cX4_ticksSince, 3, (some .int)), (yX4_isRepairedSince, cX4_isRepairedSince, 4, (some .boolean)), (yX4_clearGraves, cX4_clearGraves, 4, (some .int)), (yX4_passTick, cX4_passTick, 5, (some .int)), (yX4_nodesWithTruth, cX4_nodesWithTruth, 4, (some .int)), (yX4_nodesHauntedBy, cX4_nodesHauntedBy, 4, (some .int)), (yX4_isSettledGrave, cX4_isSettledGrave, 4, (some .boolean)), (yX4_keysOfKind, cX4_keysOfKind, 5, (some .int)), (yX4_ripeGraves, cX4_ripeGraves, 4, (some .int)), (yX4_keysThatHaunt, cX4_keysThatHaunt, 4, (some .int)), (yX4_slowestPair, cX4_slowestPair, 6, (some .int)), (yX4_safeGrace, cX4_safeGrace, 4, (some .int)), (yX4_isUnsettledGrave, cX4_isUnsettledGrave, 3, (some .boolean)), (yX4_gravesOfAllNodes, cX4_gravesOfAllNodes, 3, (some .int)), (yX4_hauntingKeys, cX4_hauntingKeys, 3, (some .int)), (yX4_gravesNotSettled, cX4_gravesNotSettled, 4, (some .int)), (yX4_lowerNodeKnowsSame, cX4_lowerNodeKnowsSame, 4, (some .boolean)), (yX5_init, cX5_init, 2, none), (yX5_set, cX5_set, 4, (some .int)), (yX5_isSetting, cX5_isSetting, 1, (some .boolean)), (yX5_record, cX5_record, 3, none), (yX5_setUp, cX5_setUp, 3, (some .int)), (yX5_isNode, cX5_isNode, 1, (some .boolean)), (yX5_write, cX5_write, 4, (some .int)), (yX5_isKey, cX5_isKey, 1, (some .boolean)), (yX5_place, cX5_place, 2, (some .int)), (yX5_delete, cX5_delete, 3, (some .int)), (yX5_read, cX5_read, 4, (some .int)), (yX5_repair, cX5_repair, 3, (some .int)), (yX5_pairPlace, cX5_pairPlace, 2, (some .int)), (yX5_clear, cX5_clear, 2, (some .int)), (yX5_plan, cX5_plan, 4, (some .int)), (yX5_init, cX5_init, 2, none), (yX5_pass, cX5_pass, 4, (some .int)), (yX5_init, cX5_init, 2, none), (yX5_init, cX5_init, 2, none), (yX5_init, cX5_init, 2, none), (yX5_init, cX5_init, 2, none), (yX5_init, cX5_init, 2, none), (yX5_known, cX5_known, 7, (some .int)), (yX5_truth, cX5_truth, 4, (some .int)), (yX5_node, cX5_node, 3, (some .int)), (yX5_pair, cX5_pair, 5, (some .int)), (yX5_slowest, cX5_slowest, 1, (some .int)), (yX5_graceNeeded, cX5_graceNeeded, 1, (some .int)), (yX5_init, cX5_init, 2, none), (yX5_init, cX5_init, 2, none), (yX5_count, cX5_count, 2, (some .int)), (yX5_setting, cX5_setting, 2, (some .int)), (yL_cell, cL_cell, 2, (some .int)), (yL_low, cL_low, 2, (some .int)), (yL_stamp, cL_stamp, 4, (some .int)), (yL_does, cL_does, 7, (some .int)), (yL_areKnownSo, cL_areKnownSo, 9, (some .boolean)), (yL_isRepairSo, cL_isRepairSo, 9, (some .boolean)), (yL_isGraceSo, cL_isGraceSo, 8, (some .boolean)), (yL_isSlowestSo, cL_isSlowestSo, 6, (some .boolean))]
def kg_mt (i : Nat) : MethodName × ByteArray × Nat × Option FieldType := kg_ms.getD i (yX0_init, cX0_init, 1, none)
def kg_mc (i : Nat) : Nat := if i < 4 then 0 else if i < 11 then 1 else if i < 14 then 2 else if i < 21 then 3 else if i < 56 then 4 else if i < 88 then 5 else 6
def kg_cn (o : Nat) : String := kg_C o
theorem kg_inT {w : Cond} (h : w ∈ lw_tbl) (g : goodWord w = true) : w ∈ kg_T := List.mem_filter.mpr ⟨h, g⟩
theorem kg_ci0 : Cond.code yX0_init cX0_init 1 none ∈ kg_T := kg_inT (List.mem_append_right _ (List.mem_append_left _ (List.mem_of_getElem? (i := 78) rfl : _ ∈ tables_1_1))) rfl
theorem kg_ci1 : Cond.code yX0_copyFrom cX0_copyFrom 2 none ∈ kg_T := kg_inT (List.mem_append_right _ (List.mem_append_left _ (List.mem_of_getElem? (i := 232) rfl : _ ∈ tables_1_1))) rfl
theorem kg_ci2 : Cond.code yX0_add cX0_add 5 none ∈ kg_T := kg_inT (List.mem_append_right _ (List.mem_append_right _ (List.mem_append_left _ (List.mem_of_getElem? (i := 21) rfl : _ ∈ tables_1_2)))) rfl
theorem kg_ci3 : Cond.code yX0_init cX0_init 1 none ∈ kg_T := kg_inT (List.mem_append_right _ (List.mem_append_left _ (List.mem_of_getElem? (i := 78) rfl : _ ∈ tables_1_1))) rfl
theorem kg_ci4 : Cond.code yX1_init cX1_init 1 none ∈ kg_T := kg_inT (List.mem_append_right _ (List.mem_append_left _ (List.mem_of_getElem? (i := 27) rfl : _ ∈ tables_1_1))) rfl
theorem kg_ci5 : Cond.code yX1_copyFrom cX1_copyFrom 2 none ∈ kg_T := kg_inT (List.mem_append_right _ (List.mem_append_left _ (List.mem_of_getElem? (i := 222) rfl : _ ∈ tables_1_1))) rfl
theorem kg_ci6 : Cond.code yX1_put cX1_put 5 none ∈ kg_T := kg_inT (List.mem_append_right _ (List.mem_append_right _ (List.mem_append_left _ (List.mem_of_getElem? (i := 149) rfl : _ ∈ tables_1_2)))) rfl
theorem kg_ci7 : Cond.code yX1_kindAt cX1_kindAt 2 (some .int) ∈ kg_T := kg_inT (List.mem_append_right _ (List.mem_append_right _ (List.mem_append_left _ (List.mem_of_getElem? (i := 9) rfl : _ ∈ tables_1_2)))) rfl
theorem kg_ci8 : Cond.code yX1_take cX1_take 4 none ∈ kg_T := kg_inT (List.mem_append_right _ (List.mem_append_right _ (List.mem_append_left _ (List.mem_of_getElem? (i := 17) rfl : _ ∈ tables_1_2)))) rfl
theorem kg_ci9 : Cond.code yX1_valueAt cX1_valueAt 2 (some .int) ∈ kg_T := kg_inT (List.mem_append_right _ (List.mem_append_right _ (List.mem_append_left _ (List.mem_of_getElem? (i := 26) rfl : _ ∈ tables_1_2)))) rfl
theorem kg_ci10 : Cond.code yX1_forget cX1_forget 2 none ∈ kg_T := kg_inT (List.mem_append_right _ (List.mem_append_right _ (List.mem_append_left _ (List.mem_of_getElem? (i := 165) rfl : _ ∈ tables_1_2)))) rfl
theorem kg_ci11 : Cond.code yX2_init cX2_init 1 none ∈ kg_T := kg_inT (List.mem_append_right _ (List.mem_append_left _ (List.mem_of_getElem? (i := 54) rfl : _ ∈ tables_1_1))) rfl
theorem kg_ci12 : Cond.code yX2_copyFrom cX2_copyFrom 2 none ∈ kg_T := kg_inT (List.mem_append_right _ (List.mem_append_left _ (List.mem_of_getElem? (i := 227) rfl : _ ∈ tables_1_1))) rfl
theorem kg_ci13 : Cond.code yX2_add cX2_add 4 none ∈ kg_T := kg_inT (List.mem_append_right _ (List.mem_append_right _ (List.mem_append_left _ (List.mem_of_getElem? (i := 186) rfl : _ ∈ tables_1_2)))) rfl
theorem kg_ci14 : Cond.code yX3_init cX3_init 1 none ∈ kg_T := kg_inT (List.mem_append_right _ (List.mem_append_left _ (List.mem_of_getElem? (i := 149) rfl : _ ∈ tables_1_1))) rfl
theorem kg_ci15 : Cond.code yX3_init cX3_init 1 none ∈ kg_T := kg_inT (List.mem_append_right _ (List.mem_append_left _ (List.mem_of_getElem? (i := 149) rfl : _ ∈ tables_1_1))) rfl
theorem kg_ci16 : Cond.code yX3_init cX3_init 1 none ∈ kg_T := kg_inT (List.mem_append_right _ (List.mem_append_left _ (List.mem_of_getElem? (i := 149) rfl : _ ∈ tables_1_1))) rfl
theorem kg_ci17 : Cond.code yX3_init cX3_init 1 none ∈ kg_T := kg_inT (List.mem_append_right _ (List.mem_append_left _ (List.mem_of_getElem? (i := 149) rfl : _ ∈ tables_1_1))) rfl
theorem kg_ci18 : Cond.code yX3_init cX3_init 1 none ∈ kg_T := kg_inT (List.mem_append_right _ (List.mem_append_left _ (List.mem_of_getElem? (i := 149) rfl : _ ∈ tables_1_1))) rfl
theorem kg_ci19 : Cond.code yX3_init cX3_init 1 none ∈ kg_T := kg_inT (List.mem_append_right _ (List.mem_append_left _ (List.mem_of_getElem? (i := 149) rfl : _ ∈ tables_1_1))) rfl
theorem kg_ci20 : Cond.code yX3_init cX3_init 1 none ∈ kg_T := kg_inT (List.mem_append_right _ (List.mem_append_left _ (List.mem_of_getElem? (i := 149) rfl : _ ∈ tables_1_1))) rfl
theorem kg_ci21 : Cond.code yX4_init cX4_init 2 none ∈ kg_T := kg_inT (List.mem_append_right _ (List.mem_append_left _ (List.mem_of_getElem? (i := 21) rfl : _ ∈ tables_1_1))) rfl
theorem kg_ci22 : Cond.code yX4_copyFrom cX4_copyFrom 3 none ∈ kg_T := kg_inT (List.mem_append_right _ (List.mem_append_left _ (List.mem_of_getElem? (i := 215) rfl : _ ∈ tables_1_1))) rfl
theorem kg_ci23 : Cond.code yX4_nodesUp cX4_nodesUp 3 (some .int) ∈ kg_T := kg_inT (List.mem_append_right _ (List.mem_append_right _ (List.mem_append_left _ (List.mem_of_getElem? (i := 107) rfl : _ ∈ tables_1_2)))) rfl
theorem kg_ci24 : Cond.code yX4_spread cX4_spread 5 (some .int) ∈ kg_T := kg_inT (List.mem_append_right _ (List.mem_append_right _ (List.mem_append_left _ (List.mem_of_getElem? (i := 145) rfl : _ ∈ tables_1_2)))) rfl
theorem kg_ci25 : Cond.code yX4_reach cX4_reach 5 none ∈ kg_T := kg_inT (List.mem_append_right _ (List.mem_append_left _ (List.mem_of_getElem? (i := 196) rfl : _ ∈ tables_1_1))) rfl
theorem kg_ci26 : Cond.code yX4_newestReached cX4_newestReached 5 (some .int) ∈ kg_T := kg_inT (List.mem_append_right _ (List.mem_append_left _ (List.mem_of_getElem? (i := 192) rfl : _ ∈ tables_1_1))) rfl
theorem kg_ci27 : Cond.code yX4_stampOf cX4_stampOf 3 (some .int) ∈ kg_T := kg_inT (List.mem_append_right _ (List.mem_append_left _ (List.mem_of_getElem? (i := 200) rfl : _ ∈ tables_1_1))) rfl
theorem kg_ci28 : Cond.code yX4_reachedDiffer cX4_reachedDiffer 4 (some .boolean) ∈ kg_T := kg_inT (List.mem_append_right _ (List.mem_append_left _ (List.mem_of_getElem? (i := 207) rfl : _ ∈ tables_1_1))) rfl
theorem kg_ci29 : Cond.code yX4_mend cX4_mend 4 none ∈ kg_T := kg_inT (List.mem_append_right _ (List.mem_append_left _ (List.mem_of_getElem? (i := 237) rfl : _ ∈ tables_1_1))) rfl
theorem kg_ci30 : Cond.code yX4_learn cX4_learn 5 none ∈ kg_T := kg_inT (List.mem_append_right _ (List.mem_append_right _ (List.mem_append_left _ (List.mem_of_getElem? (i := 1) rfl : _ ∈ tables_1_2)))) rfl
theorem kg_ci31 : Cond.code yX4_isHaunted cX4_isHaunted 3 (some .boolean) ∈ kg_T := kg_inT (List.mem_append_right _ (List.mem_append_right _ (List.mem_append_left _ (List.mem_of_getElem? (i := 5) rfl : _ ∈ tables_1_2)))) rfl
theorem kg_ci32 : Cond.code yX4_isGrave cX4_isGrave 3 (some .boolean) ∈ kg_T := kg_inT (List.mem_append_right _ (List.mem_append_right _ (List.mem_append_left _ (List.mem_of_getElem? (i := 13) rfl : _ ∈ tables_1_2)))) rfl
theorem kg_ci33 : Cond.code yX4_join cX4_join 5 (some .int) ∈ kg_T := kg_inT (List.mem_append_right _ (List.mem_append_right _ (List.mem_append_left _ (List.mem_of_getElem? (i := 199) rfl : _ ∈ tables_1_2)))) rfl
theorem kg_ci34 : Cond.code yX4_logPair cX4_logPair 4 none ∈ kg_T := kg_inT (List.mem_append_right _ (List.mem_append_right _ (List.mem_append_left _ (List.mem_of_getElem? (i := 203) rfl : _ ∈ tables_1_2)))) rfl
theorem kg_ci35 : Cond.code yX4_keysKnownOtherwise cX4_keysKnownOtherwise 5 (some .int) ∈ kg_T := kg_inT (List.mem_append_right _ (List.mem_append_right _ (List.mem_append_left _ (List.mem_of_getElem? (i := 209) rfl : _ ∈ tables_1_2)))) rfl
theorem kg_ci36 : Cond.code yX4_clearableGraves cX4_clearableGraves 4 (some .int) ∈ kg_T := kg_inT (List.mem_append_right _ (List.mem_append_right _ (List.mem_append_left _ (List.mem_of_getElem? (i := 68) rfl : _ ∈ tables_1_2)))) rfl
theorem kg_ci37 : Cond.code yX4_isClearable cX4_isClearable 3 (some .boolean) ∈ kg_T := kg_inT (List.mem_append_right _ (List.mem_append_right _ (List.mem_append_left _ (List.mem_of_getElem? (i := 72) rfl : _ ∈ tables_1_2)))) rfl
theorem kg_ci38 : Cond.code yX4_isRipe cX4_isRipe 3 (some .boolean) ∈ kg_T := kg_inT (List.mem_append_right _ (List.mem_append_right _ (List.mem_append_left _ (List.mem_of_getElem? (i := 60) rfl : _ ∈ tables_1_2)))) rfl
theorem kg_ci39 : Cond.code yX4_ticksSince cX4_ticksSince 3 (some .int) ∈ kg_T := kg_inT (List.mem_append_right _ (List.mem_append_right _ (List.mem_append_left _ (List.mem_of_getElem? (i := 64) rfl : _ ∈ tables_1_2)))) rfl
theorem kg_ci40 : Cond.code yX4_isRepairedSince cX4_isRepairedSince 4 (some .boolean) ∈ kg_T := kg_inT (List.mem_append_right _ (List.mem_append_right _ (List.mem_append_left _ (List.mem_of_getElem? (i := 76) rfl : _ ∈ tables_1_2)))) rfl
theorem kg_ci41 : Cond.code yX4_clearGraves cX4_clearGraves 4 (some .int) ∈ kg_T := kg_inT (List.mem_append_right _ (List.mem_append_right _ (List.mem_append_left _ (List.mem_of_getElem? (i := 161) rfl : _ ∈ tables_1_2)))) rfl
theorem kg_ci42 : Cond.code yX4_passTick cX4_passTick 5 (some .int) ∈ kg_T := kg_inT (List.mem_append_right _ (List.mem_append_right _ (List.mem_append_left _ (List.mem_of_getElem? (i := 195) rfl : _ ∈ tables_1_2)))) rfl
theorem kg_ci43 : Cond.code yX4_nodesWithTruth cX4_nodesWithTruth 4 (some .int) ∈ kg_T := kg_inT (List.mem_append_right _ (List.mem_append_right _ (List.mem_append_left _ (List.mem_of_getElem? (i := 36) rfl : _ ∈ tables_1_2)))) rfl
theorem kg_ci44 : Cond.code yX4_nodesHauntedBy cX4_nodesHauntedBy 4 (some .int) ∈ kg_T := kg_inT (List.mem_append_right _ (List.mem_append_right _ (List.mem_append_left _ (List.mem_of_getElem? (i := 40) rfl : _ ∈ tables_1_2)))) rfl
theorem kg_ci45 : Cond.code yX4_isSettledGrave cX4_isSettledGrave 4 (some .boolean) ∈ kg_T := kg_inT (List.mem_append_right _ (List.mem_append_right _ (List.mem_append_left _ (List.mem_of_getElem? (i := 44) rfl : _ ∈ tables_1_2)))) rfl
theorem kg_ci46 : Cond.code yX4_keysOfKind cX4_keysOfKind 5 (some .int) ∈ kg_T := kg_inT (List.mem_append_right _ (List.mem_append_right _ (List.mem_append_left _ (List.mem_of_getElem? (i := 52) rfl : _ ∈ tables_1_2)))) rfl
theorem kg_ci47 : Cond.code yX4_ripeGraves cX4_ripeGraves 4 (some .int) ∈ kg_T := kg_inT (List.mem_append_right _ (List.mem_append_right _ (List.mem_append_left _ (List.mem_of_getElem? (i := 56) rfl : _ ∈ tables_1_2)))) rfl
theorem kg_ci48 : Cond.code yX4_keysThatHaunt cX4_keysThatHaunt 4 (some .int) ∈ kg_T := kg_inT (List.mem_append_right _ (List.mem_append_right _ (List.mem_append_left _ (List.mem_of_getElem? (i := 89) rfl : _ ∈ tables_1_2)))) rfl
theorem kg_ci49 : Cond.code yX4_slowestPair cX4_slowestPair 6 (some .int) ∈ kg_T := kg_inT (List.mem_append_right _ (List.mem_append_right _ (List.mem_append_right _ ((List.mem_of_getElem? (i := 17) rfl : _ ∈ tables_1_3))))) rfl
theorem kg_ci50 : Cond.code yX4_safeGrace cX4_safeGrace 4 (some .int) ∈ kg_T := kg_inT (List.mem_append_right _ (List.mem_append_right _ (List.mem_append_right _ ((List.mem_of_getElem? (i := 6) rfl : _ ∈ tables_1_3))))) rfl
theorem kg_ci51 : Cond.code yX4_isUnsettledGrave cX4_isUnsettledGrave 3 (some .boolean) ∈ kg_T := kg_inT (List.mem_append_right _ (List.mem_append_right _ (List.mem_append_left _ (List.mem_of_getElem? (i := 115) rfl : _ ∈ tables_1_2)))) rfl
theorem kg_ci52 : Cond.code yX4_gravesOfAllNodes cX4_gravesOfAllNodes 3 (some .int) ∈ kg_T := kg_inT (List.mem_append_right _ (List.mem_append_right _ (List.mem_append_left _ (List.mem_of_getElem? (i := 97) rfl : _ ∈ tables_1_2)))) rfl
theorem kg_ci53 : Cond.code yX4_hauntingKeys cX4_hauntingKeys 3 (some .int) ∈ kg_T := kg_inT (List.mem_append_right _ (List.mem_append_right _ (List.mem_append_left _ (List.mem_of_getElem? (i := 102) rfl : _ ∈ tables_1_2)))) rfl
theorem kg_ci54 : Cond.code yX4_gravesNotSettled cX4_gravesNotSettled 4 (some .int) ∈ kg_T := kg_inT (List.mem_append_right _ (List.mem_append_right _ (List.mem_append_left _ (List.mem_of_getElem? (i := 111) rfl : _ ∈ tables_1_2)))) rfl
theorem kg_ci55 : Cond.code yX4_lowerNodeKnowsSame cX4_lowerNodeKnowsSame 4 (some .boolean) ∈ kg_T := kg_inT (List.mem_append_right _ (List.mem_append_right _ (List.mem_append_left _ (List.mem_of_getElem? (i := 120) rfl : _ ∈ tables_1_2)))) rfl
theorem kg_ci56 : Cond.code yX5_init cX5_init 2 none ∈ kg_T := kg_inT (List.mem_append_right _ (List.mem_append_left _ (List.mem_of_getElem? (i := 13) rfl : _ ∈ tables_1_1))) rfl
theorem kg_ci57 : Cond.code yX5_set cX5_set 4 (some .int) ∈ kg_T := kg_inT (List.mem_append_right _ (List.mem_append_right _ (List.mem_append_left _ (List.mem_of_getElem? (i := 174) rfl : _ ∈ tables_1_2)))) rfl
theorem kg_ci58 : Cond.code yX5_isSetting cX5_isSetting 1 (some .boolean) ∈ kg_T := kg_inT (List.mem_append_right _ (List.mem_append_right _ (List.mem_append_left _ (List.mem_of_getElem? (i := 127) rfl : _ ∈ tables_1_2)))) rfl
theorem kg_ci59 : Cond.code yX5_record cX5_record 3 none ∈ kg_T := kg_inT (List.mem_append_right _ (List.mem_append_left _ (List.mem_of_getElem? (i := 211) rfl : _ ∈ tables_1_1))) rfl
theorem kg_ci60 : Cond.code yX5_setUp cX5_setUp 3 (some .int) ∈ kg_T := kg_inT (List.mem_append_right _ (List.mem_append_right _ (List.mem_append_left _ (List.mem_of_getElem? (i := 170) rfl : _ ∈ tables_1_2)))) rfl
theorem kg_ci61 : Cond.code yX5_isNode cX5_isNode 1 (some .boolean) ∈ kg_T := kg_inT (List.mem_append_right _ (List.mem_append_left _ (List.mem_of_getElem? (i := 185) rfl : _ ∈ tables_1_1))) rfl
theorem kg_ci62 : Cond.code yX5_write cX5_write 4 (some .int) ∈ kg_T := kg_inT (List.mem_append_right _ (List.mem_append_right _ (List.mem_append_left _ (List.mem_of_getElem? (i := 141) rfl : _ ∈ tables_1_2)))) rfl
theorem kg_ci63 : Cond.code yX5_isKey cX5_isKey 1 (some .boolean) ∈ kg_T := kg_inT (List.mem_append_right _ (List.mem_append_left _ (List.mem_of_getElem? (i := 188) rfl : _ ∈ tables_1_1))) rfl
theorem kg_ci64 : Cond.code yX5_place cX5_place 2 (some .int) ∈ kg_T := kg_inT (List.mem_append_right _ (List.mem_append_left _ (List.mem_of_getElem? (i := 203) rfl : _ ∈ tables_1_1))) rfl
theorem kg_ci65 : Cond.code yX5_delete cX5_delete 3 (some .int) ∈ kg_T := kg_inT (List.mem_append_right _ (List.mem_append_right _ (List.mem_append_left _ (List.mem_of_getElem? (i := 153) rfl : _ ∈ tables_1_2)))) rfl
theorem kg_ci66 : Cond.code yX5_read cX5_read 4 (some .int) ∈ kg_T := kg_inT (List.mem_append_right _ (List.mem_append_left _ (List.mem_of_getElem? (i := 182) rfl : _ ∈ tables_1_1))) rfl
theorem kg_ci67 : Cond.code yX5_repair cX5_repair 3 (some .int) ∈ kg_T := kg_inT (List.mem_append_right _ (List.mem_append_right _ (List.mem_append_left _ (List.mem_of_getElem? (i := 234) rfl : _ ∈ tables_1_2)))) rfl
theorem kg_ci68 : Cond.code yX5_pairPlace cX5_pairPlace 2 (some .int) ∈ kg_T := kg_inT (List.mem_append_right _ (List.mem_append_right _ (List.mem_append_left _ (List.mem_of_getElem? (i := 79) rfl : _ ∈ tables_1_2)))) rfl
theorem kg_ci69 : Cond.code yX5_clear cX5_clear 2 (some .int) ∈ kg_T := kg_inT (List.mem_append_right _ (List.mem_append_right _ (List.mem_append_left _ (List.mem_of_getElem? (i := 157) rfl : _ ∈ tables_1_2)))) rfl
theorem kg_ci70 : Cond.code yX5_plan cX5_plan 4 (some .int) ∈ kg_T := kg_inT (List.mem_append_right _ (List.mem_append_right _ (List.mem_append_left _ (List.mem_of_getElem? (i := 182) rfl : _ ∈ tables_1_2)))) rfl
theorem kg_ci71 : Cond.code yX5_init cX5_init 2 none ∈ kg_T := kg_inT (List.mem_append_right _ (List.mem_append_left _ (List.mem_of_getElem? (i := 13) rfl : _ ∈ tables_1_1))) rfl
theorem kg_ci72 : Cond.code yX5_pass cX5_pass 4 (some .int) ∈ kg_T := kg_inT (List.mem_append_right _ (List.mem_append_right _ (List.mem_append_left _ (List.mem_of_getElem? (i := 190) rfl : _ ∈ tables_1_2)))) rfl
theorem kg_ci73 : Cond.code yX5_init cX5_init 2 none ∈ kg_T := kg_inT (List.mem_append_right _ (List.mem_append_left _ (List.mem_of_getElem? (i := 13) rfl : _ ∈ tables_1_1))) rfl
theorem kg_ci74 : Cond.code yX5_init cX5_init 2 none ∈ kg_T := kg_inT (List.mem_append_right _ (List.mem_append_left _ (List.mem_of_getElem? (i := 13) rfl : _ ∈ tables_1_1))) rfl
theorem kg_ci75 : Cond.code yX5_init cX5_init 2 none ∈ kg_T := kg_inT (List.mem_append_right _ (List.mem_append_left _ (List.mem_of_getElem? (i := 13) rfl : _ ∈ tables_1_1))) rfl
theorem kg_ci76 : Cond.code yX5_init cX5_init 2 none ∈ kg_T := kg_inT (List.mem_append_right _ (List.mem_append_left _ (List.mem_of_getElem? (i := 13) rfl : _ ∈ tables_1_1))) rfl
theorem kg_ci77 : Cond.code yX5_init cX5_init 2 none ∈ kg_T := kg_inT (List.mem_append_right _ (List.mem_append_left _ (List.mem_of_getElem? (i := 13) rfl : _ ∈ tables_1_1))) rfl
theorem kg_ci78 : Cond.code yX5_known cX5_known 7 (some .int) ∈ kg_T := kg_inT (List.mem_append_right _ (List.mem_append_right _ (List.mem_append_left _ (List.mem_of_getElem? (i := 216) rfl : _ ∈ tables_1_2)))) rfl
theorem kg_ci79 : Cond.code yX5_truth cX5_truth 4 (some .int) ∈ kg_T := kg_inT (List.mem_append_right _ (List.mem_append_right _ (List.mem_append_left _ (List.mem_of_getElem? (i := 31) rfl : _ ∈ tables_1_2)))) rfl
theorem kg_ci80 : Cond.code yX5_node cX5_node 3 (some .int) ∈ kg_T := kg_inT (List.mem_append_right _ (List.mem_append_right _ (List.mem_append_left _ (List.mem_of_getElem? (i := 48) rfl : _ ∈ tables_1_2)))) rfl
theorem kg_ci81 : Cond.code yX5_pair cX5_pair 5 (some .int) ∈ kg_T := kg_inT (List.mem_append_right _ (List.mem_append_right _ (List.mem_append_left _ (List.mem_of_getElem? (i := 228) rfl : _ ∈ tables_1_2)))) rfl
theorem kg_ci82 : Cond.code yX5_slowest cX5_slowest 1 (some .int) ∈ kg_T := kg_inT (List.mem_append_right _ (List.mem_append_right _ (List.mem_append_right _ ((List.mem_of_getElem? (i := 13) rfl : _ ∈ tables_1_3))))) rfl
theorem kg_ci83 : Cond.code yX5_graceNeeded cX5_graceNeeded 1 (some .int) ∈ kg_T := kg_inT (List.mem_append_right _ (List.mem_append_right _ (List.mem_append_right _ ((List.mem_of_getElem? (i := 2) rfl : _ ∈ tables_1_3))))) rfl
theorem kg_ci84 : Cond.code yX5_init cX5_init 2 none ∈ kg_T := kg_inT (List.mem_append_right _ (List.mem_append_left _ (List.mem_of_getElem? (i := 13) rfl : _ ∈ tables_1_1))) rfl
theorem kg_ci85 : Cond.code yX5_init cX5_init 2 none ∈ kg_T := kg_inT (List.mem_append_right _ (List.mem_append_left _ (List.mem_of_getElem? (i := 13) rfl : _ ∈ tables_1_1))) rfl
theorem kg_ci86 : Cond.code yX5_count cX5_count 2 (some .int) ∈ kg_T := kg_inT (List.mem_append_right _ (List.mem_append_right _ (List.mem_append_left _ (List.mem_of_getElem? (i := 93) rfl : _ ∈ tables_1_2)))) rfl
theorem kg_ci87 : Cond.code yX5_setting cX5_setting 2 (some .int) ∈ kg_T := kg_inT (List.mem_append_right _ (List.mem_append_right _ (List.mem_append_left _ (List.mem_of_getElem? (i := 124) rfl : _ ∈ tables_1_2)))) rfl
theorem kg_ci88 : Cond.code yL_cell cL_cell 2 (some .int) ∈ kg_T := kg_inT (List.mem_append_right _ (List.mem_append_right _ (List.mem_append_left _ (List.mem_of_getElem? (i := 130) rfl : _ ∈ tables_1_2)))) rfl
theorem kg_ci89 : Cond.code yL_low cL_low 2 (some .int) ∈ kg_T := kg_inT (List.mem_append_right _ (List.mem_append_right _ (List.mem_append_left _ (List.mem_of_getElem? (i := 133) rfl : _ ∈ tables_1_2)))) rfl
theorem kg_ci90 : Cond.code yL_stamp cL_stamp 4 (some .int) ∈ kg_T := kg_inT (List.mem_append_right _ (List.mem_append_right _ (List.mem_append_left _ (List.mem_of_getElem? (i := 221) rfl : _ ∈ tables_1_2)))) rfl
theorem kg_ci91 : Cond.code yL_does cL_does 7 (some .int) ∈ kg_T := kg_inT (List.mem_append_right _ (List.mem_append_right _ (List.mem_append_left _ (List.mem_of_getElem? (i := 137) rfl : _ ∈ tables_1_2)))) rfl
theorem kg_ci92 : Cond.code yL_areKnownSo cL_areKnownSo 9 (some .boolean) ∈ kg_T := kg_inT (List.mem_append_right _ (List.mem_append_right _ (List.mem_append_left _ (List.mem_of_getElem? (i := 212) rfl : _ ∈ tables_1_2)))) rfl
theorem kg_ci93 : Cond.code yL_isRepairSo cL_isRepairSo 9 (some .boolean) ∈ kg_T := kg_inT (List.mem_append_right _ (List.mem_append_right _ (List.mem_append_left _ (List.mem_of_getElem? (i := 224) rfl : _ ∈ tables_1_2)))) rfl
theorem kg_ci94 : Cond.code yL_isGraceSo cL_isGraceSo 8 (some .boolean) ∈ kg_T := kg_inT (List.mem_append_right _ (List.mem_append_right _ (List.mem_append_left _ (List.mem_of_getElem? (i := 238) rfl : _ ∈ tables_1_2)))) rfl
theorem kg_ci95 : Cond.code yL_isSlowestSo cL_isSlowestSo 6 (some .boolean) ∈ kg_T := kg_inT (List.mem_append_right _ (List.mem_append_right _ (List.mem_append_right _ ((List.mem_of_getElem? (i := 9) rfl : _ ∈ tables_1_3))))) rfl
set_option maxRecDepth 100000 in
theorem kg_code_in : ∀ q ∈ kg_ms, Cond.code q.1 q.2.1 q.2.2.1 q.2.2.2 ∈ kg_T := List.forall_mem_cons.mpr ⟨kg_ci0, List.forall_mem_cons.mpr ⟨kg_ci1, List.forall_mem_cons.mpr ⟨kg_ci2, List.forall_mem_cons.mpr ⟨kg_ci3, List.forall_mem_cons.mpr ⟨kg_ci4, List.forall_mem_cons.mpr ⟨kg_ci5, List.forall_mem_cons.mpr ⟨kg_ci6, List.forall_mem_cons.mpr ⟨kg_ci7, List.forall_mem_cons.mpr ⟨kg_ci8, List.forall_mem_cons.mpr ⟨kg_ci9, List.forall_mem_cons.mpr ⟨kg_ci10, List.forall_mem_cons.mpr ⟨kg_ci11, List.forall_mem_cons.mpr ⟨kg_ci12, List.forall_mem_cons.mpr ⟨kg_ci13, List.forall_mem_cons.mpr ⟨kg_ci14, List.forall_mem_cons.mpr ⟨kg_ci15, List.forall_mem_cons.mpr ⟨kg_ci16, List.forall_mem_cons.mpr ⟨kg_ci17, List.forall_mem_cons.mpr ⟨kg_ci18, List.forall_mem_cons.mpr ⟨kg_ci19, List.forall_mem_cons.mpr ⟨kg_ci20, List.forall_mem_cons.mpr ⟨kg_ci21, List.forall_mem_cons.mpr ⟨kg_ci22, List.forall_mem_cons.mpr ⟨kg_ci23, List.forall_mem_cons.mpr ⟨kg_ci24, List.forall_mem_cons.mpr ⟨kg_ci25, List.forall_mem_cons.mpr ⟨kg_ci26, List.forall_mem_cons.mpr ⟨kg_ci27, List.forall_mem_cons.mpr ⟨kg_ci28, List.forall_mem_cons.mpr ⟨kg_ci29, List.forall_mem_cons.mpr ⟨kg_ci30, List.forall_mem_cons.mpr ⟨kg_ci31, List.forall_mem_cons.mpr ⟨kg_ci32, List.forall_mem_cons.mpr ⟨kg_ci33, List.forall_mem_cons.mpr ⟨kg_ci34, List.forall_mem_cons.mpr ⟨kg_ci35, List.forall_mem_cons.mpr ⟨kg_ci36, List.forall_mem_cons.mpr ⟨kg_ci37, List.forall_mem_cons.mpr ⟨kg_ci38, List.forall_mem_cons.mpr ⟨kg_ci39, List.forall_mem_cons.mpr ⟨kg_ci40, List.forall_mem_cons.mpr ⟨kg_ci41, List.forall_mem_cons.mpr ⟨kg_ci42, List.forall_mem_cons.mpr ⟨kg_ci43, List.forall_mem_cons.mpr ⟨kg_ci44, List.forall_mem_cons.mpr ⟨kg_ci45, List.forall_mem_cons.mpr ⟨kg_ci46, List.forall_mem_cons.mpr ⟨kg_ci47, List.forall_mem_cons.mpr ⟨kg_ci48, List.forall_mem_cons.mpr ⟨kg_ci49, List.forall_mem_cons.mpr ⟨kg_ci50, List.forall_mem_cons.mpr ⟨kg_ci51, List.forall_mem_cons.mpr ⟨kg_ci52, List.forall_mem_cons.mpr ⟨kg_ci53, List.forall_mem_cons.mpr ⟨kg_ci54, List.forall_mem_cons.mpr ⟨kg_ci55, List.forall_mem_cons.mpr ⟨kg_ci56, List.forall_mem_cons.mpr ⟨kg_ci57, List.forall_mem_cons.mpr ⟨kg_ci58, List.forall_mem_cons.mpr ⟨kg_ci59, List.forall_mem_cons.mpr ⟨kg_ci60, List.forall_mem_cons.mpr ⟨kg_ci61, List.forall_mem_cons.mpr ⟨kg_ci62, List.forall_mem_cons.mpr ⟨kg_ci63, List.forall_mem_cons.mpr ⟨kg_ci64, List.forall_mem_cons.mpr ⟨kg_ci65, List.forall_mem_cons.mpr ⟨kg_ci66, List.forall_mem_cons.mpr ⟨kg_ci67, List.forall_mem_cons.mpr ⟨kg_ci68, List.forall_mem_cons.mpr ⟨kg_ci69, List.forall_mem_cons.mpr ⟨kg_ci70, List.forall_mem_cons.mpr ⟨kg_ci71, List.forall_mem_cons.mpr ⟨kg_ci72, List.forall_mem_cons.mpr ⟨kg_ci73, List.forall_mem_cons.mpr ⟨kg_ci74, List.forall_mem_cons.mpr ⟨kg_ci75, List.forall_mem_cons.mpr ⟨kg_ci76, List.forall_mem_cons.mpr ⟨kg_ci77, List.forall_mem_cons.mpr ⟨kg_ci78, List.forall_mem_cons.mpr ⟨kg_ci79, List.forall_mem_cons.mpr ⟨kg_ci80, List.forall_mem_cons.mpr ⟨kg_ci81, List.forall_mem_cons.mpr ⟨kg_ci82, List.forall_mem_cons.mpr ⟨kg_ci83, List.forall_mem_cons.mpr ⟨kg_ci84, List.forall_mem_cons.mpr ⟨kg_ci85, List.forall_mem_cons.mpr ⟨kg_ci86, List.forall_mem_cons.mpr ⟨kg_ci87, List.forall_mem_cons.mpr ⟨kg_ci88, List.forall_mem_cons.mpr ⟨kg_ci89, List.forall_mem_cons.mpr ⟨kg_ci90, List.forall_mem_cons.mpr ⟨kg_ci91, List.forall_mem_cons.mpr ⟨kg_ci92, List.forall_mem_cons.mpr ⟨kg_ci93, List.forall_mem_cons.mpr ⟨kg_ci94, List.forall_mem_cons.mpr ⟨kg_ci95, fun _ h => absurd h List.not_mem_nil⟩⟩⟩⟩⟩⟩⟩⟩⟩⟩⟩⟩⟩⟩⟩⟩⟩⟩⟩⟩⟩⟩⟩⟩⟩⟩⟩⟩⟩⟩⟩⟩⟩⟩⟩⟩⟩⟩⟩⟩⟩⟩⟩⟩⟩⟩⟩⟩⟩⟩⟩⟩⟩⟩⟩⟩⟩⟩⟩⟩⟩⟩⟩⟩⟩⟩⟩⟩⟩⟩⟩⟩⟩⟩⟩⟩⟩⟩⟩⟩⟩⟩⟩⟩⟩⟩⟩⟩⟩⟩⟩⟩⟩⟩⟩⟩
def kg_wp (i : Nat) (w : Cond) : Bool := decide (lw_tbl[i]? = some w) && goodWord w
theorem kg_wp_of {i : Nat} {w : Cond} (h : kg_wp i w = true) : w ∈ kg_T := by simp only [kg_wp, Bool.and_eq_true, decide_eq_true_eq] at h; exact kg_inT (List.mem_of_getElem? h.1) h.2
def kg_fl5 : List (Nat × Nat × Nat × Nat × Nat) := [(0, 9, 0, 0, 90), (0, 15, 0, 1, 91), (0, 18, 0, 2, 92), (0, 22, 0, 3, 94), (0, 25, 0, 4, 95), (0, 28, 0, 5, 96), (0, 31, 0, 6, 97), (1, 9, 1, 0, 39), (1, 15, 1, 1, 42), (1, 18, 1, 2, 43), (1, 21, 1, 3, 46), (2, 9, 2, 0, 66), (2, 15, 2, 1, 69), (2, 19, 2, 2, 71), (2, 22, 2, 3, 73), (3, 9, 3, 0, 161), (3, 15, 3, 1, 162), (4, 9, 4, 0, 115), (4, 15, 4, 1, 117), (4, 18, 4, 2, 119), (4, 22, 4, 3, 121), (4, 29, 4, 4, 123), (4, 33, 4, 5, 125), (4, 39, 4, 6, 127), (4, 46, 4, 7, 129), (4, 50, 4, 8, 131), (4, 53, 4, 9, 132), (4, 94, 1, 0, 40), (4, 124, 2, 0, 68), (4, 127, 2, 3, 74), (4, 130, 2, 1, 70), (4, 133, 2, 2, 72), (4, 143, 1, 2, 44), (4, 153, 1, 3, 48), (5, 12, 5, 0, 170), (5, 16, 5, 1, 171), (5, 20, 5, 2, 172), (5, 24, 5, 3, 173), (5, 27, 5, 4, 174), (5, 34, 5, 5, 175), (5, 49, 4, 2, 120), (5, 58, 4, 3, 122), (5, 85, 4, 4, 124), (5, 107, 4, 6, 128), (5, 111, 2, 0, 67), (5, 130, 4, 0, 116), (5, 137, 3, 1, 163), (5, 151, 1, 0, 41), (5, 154, 1, 2, 45), (5, 163, 1, 3, 47), (5, 184, 4, 5, 126), (5, 199, 4, 7, 130), (5, 226, 4, 1, 118), (5, 229, 0, 2, 93)]
def kg_fll : List (Nat × Nat × Nat × Nat) := kg_fl5.map (fun q => (q.1, q.2.1, q.2.2.1, q.2.2.2.1))
def kg_w1 (w : Cond) : Bool := decide (w ∈ lw_tbl) && goodWord w
theorem kg_w1_of {w : Cond} (h : kg_w1 w = true) : w ∈ kg_T := by simp only [kg_w1, Bool.and_eq_true, decide_eq_true_eq] at h; exact kg_inT h.1 h.2
def kg_flo (q : Nat × Nat × Nat × Nat × Nat) : Bool := decide (q.2.2.1 < 6) && decide (q.2.2.2.1 < kg_nf q.2.2.1) && kg_wp q.2.2.2.2 (.fieldLink (kg_cn q.1) q.2.1 (kg_F q.2.2.1 q.2.2.2.1).1 (kg_F q.2.2.1 q.2.2.2.1).2.1 (kg_F q.2.2.1 q.2.2.2.1).2.2.1)
set_option maxRecDepth 100000 in
theorem kg_fl5_ok : kg_fl5.all kg_flo = true := by decide +kernel
/-- own, pool, method, kind (0 virtual, 1 static, 2 static of a nest mate, 3 constructor, 4 of a nest mate), parameters; places of words -/
def kg_ml8 : List (Nat × Nat × Nat × Nat × Nat × Nat × Nat × Nat) := [(6, 8, 78, 0, 3, 463, 464, 465), (6, 14, 86, 0, 1, 340, 341, 342), (6, 18, 89, 1, 2, 381, 382, 0), (6, 24, 62, 0, 3, 388, 389, 390), (6, 27, 65, 0, 2, 400, 401, 402), (6, 30, 66, 0, 2, 189, 190, 191), (6, 33, 69, 0, 1, 404, 405, 406), (6, 36, 60, 0, 2, 417, 418, 419), (6, 40, 57, 0, 2, 421, 422, 423), (6, 43, 70, 0, 3, 429, 430, 431), (6, 46, 72, 0, 1, 437, 438, 439), (6, 49, 79, 0, 2, 278, 279, 280), (6, 52, 90, 1, 3, 469, 470, 0), (6, 56, 80, 0, 2, 295, 296, 297), (6, 59, 81, 0, 3, 475, 476, 477), (6, 62, 67, 0, 2, 481, 482, 483), (6, 65, 83, 0, 0, 489, 490, 491), (6, 69, 82, 0, 0, 500, 501, 502), (6, 72, 56, 3, 0, 21, 22, 0), (6, 73, 88, 1, 2, 378, 379, 0), (6, 77, 91, 1, 3, 385, 386, 0), (6, 81, 92, 1, 2, 460, 461, 0), (6, 85, 94, 1, 1, 486, 487, 0), (6, 89, 95, 1, 1, 497, 498, 0), (6, 92, 93, 1, 3, 472, 473, 0), (6, 96, 87, 0, 1, 371, 372, 373), (1, 30, 7, 0, 1, 277, 257, 258), (1, 34, 6, 0, 4, 416, 397, 398), (4, 28, 4, 4, 0, 35, 36, 0), (4, 38, 11, 4, 0, 62, 63, 0), (4, 45, 0, 4, 0, 86, 87, 0), (4, 65, 5, 0, 1, 229, 230, 231), (4, 69, 12, 0, 1, 234, 235, 236), (4, 72, 1, 0, 1, 239, 240, 241), (4, 75, 64, 2, 2, 211, 212, 0), (4, 79, 6, 0, 4, 396, 397, 398), (4, 83, 25, 0, 2, 203, 205, 0), (4, 87, 27, 0, 2, 207, 209, 1), (4, 90, 30, 0, 3, 248, 250, 3), (4, 97, 31, 0, 2, 252, 253, 254), (4, 101, 8, 0, 3, 264, 265, 266), (4, 104, 2, 0, 4, 268, 269, 270), (4, 107, 34, 0, 3, 450, 452, 9), (4, 110, 68, 2, 2, 327, 328, 0), (4, 113, 35, 0, 2, 456, 457, 458), (4, 136, 33, 0, 2, 446, 447, 448), (4, 139, 7, 0, 1, 256, 257, 258), (4, 144, 32, 0, 2, 260, 261, 262), (4, 147, 39, 0, 2, 311, 313, 4), (4, 150, 38, 0, 2, 307, 308, 309), (4, 156, 40, 0, 2, 323, 325, 6), (4, 159, 37, 0, 2, 319, 321, 5), (4, 162, 10, 0, 1, 412, 413, 414), (4, 166, 45, 0, 2, 366, 292, 293), (4, 169, 51, 0, 2, 362, 364, 7), (4, 172, 55, 0, 2, 367, 369, 8), (4, 175, 44, 0, 1, 353, 288, 289), (4, 178, 46, 0, 2, 348, 300, 301), (5, 11, 21, 3, 0, 29, 30, 0), (5, 33, 14, 4, 0, 157, 158, 0), (5, 38, 58, 1, 1, 375, 376, 0), (5, 52, 59, 0, 0, 218, 220, 2), (5, 55, 61, 1, 1, 193, 194, 0), (5, 62, 23, 0, 0, 354, 355, 356), (5, 66, 63, 1, 1, 196, 197, 0), (5, 69, 24, 0, 3, 392, 393, 394), (5, 73, 26, 0, 2, 199, 200, 201), (5, 77, 28, 0, 2, 214, 215, 216), (5, 81, 29, 0, 2, 244, 245, 246), (5, 89, 64, 1, 2, 272, 212, 0), (5, 92, 9, 0, 1, 273, 274, 275), (5, 98, 33, 0, 2, 485, 447, 448), (5, 101, 36, 0, 1, 315, 316, 317), (5, 104, 41, 0, 1, 408, 409, 410), (5, 116, 13, 0, 3, 433, 434, 435), (5, 134, 42, 0, 0, 442, 443, 444), (5, 144, 22, 0, 1, 222, 223, 224), (5, 148, 7, 0, 1, 282, 257, 258), (5, 157, 38, 0, 2, 467, 308, 309), (5, 160, 31, 0, 2, 468, 253, 254), (5, 166, 43, 0, 1, 283, 284, 285), (5, 169, 44, 0, 1, 287, 288, 289), (5, 172, 45, 0, 2, 291, 292, 293), (5, 175, 46, 0, 2, 299, 300, 301), (5, 178, 47, 0, 1, 303, 304, 305), (5, 181, 48, 0, 1, 336, 337, 338), (5, 187, 68, 1, 2, 479, 328, 0), (5, 190, 35, 0, 2, 480, 457, 458), (5, 193, 49, 0, 0, 504, 505, 506), (5, 196, 50, 0, 0, 493, 494, 495), (5, 232, 52, 0, 0, 344, 345, 346), (5, 235, 53, 0, 0, 349, 350, 351), (5, 238, 54, 0, 0, 358, 359, 360)]
def kg_mll : List (Nat × Nat × Nat × Nat × Nat) := kg_ml8.map (fun q => (q.1, q.2.1, q.2.2.1, q.2.2.2.1, q.2.2.2.2.1))
def kg_mlo (q : Nat × Nat × Nat × Nat × Nat × Nat × Nat × Nat) : Bool := match q with
  | (o, i, m, k, n, p1, p2, p3) => decide (m < 96) && (match k with
    | 0 => kg_wp p1 (.methodLink (kg_cn o) i (kg_mt m).1) && kg_wp p2 (.instanceMethod (kg_mt m).1) && kg_wp p3 (.selects (kg_mt m).1.cls (kg_mt m).1 (kg_mt m).1)
    | 1 => kg_wp p1 (.methodLink (kg_cn o) i (kg_mt m).1) && kg_wp p2 (.static (kg_mt m).1)
    | 2 => decide ((kg_cn o, i, (kg_mt m).1) ∈ kg_nest) && kg_wp p2 (.static (kg_mt m).1)
    | 3 => kg_wp p1 (.methodLink (kg_cn o) i (kg_mt m).1) && kg_wp p2 (.instanceMethod (kg_mt m).1)
    | _ => decide ((kg_cn o, i, (kg_mt m).1) ∈ kg_nest) && kg_wp p2 (.instanceMethod (kg_mt m).1))
set_option maxRecDepth 100000 in
theorem kg_ml8_ok : kg_ml8.all kg_mlo = true := by decide +kernel
/-- what holds of a method by number -/
def kg_mdo (i : Nat) : Bool := decide ((kg_mt i).1.cls = kg_C (kg_mc i) ∧ kg_mc i < 7 ∧ (kg_mt i).2.2.1 ≤ 11 ∧ (kg_mt i).1.cls ≠ "java/lang/invoke/MethodHandle" ∧ (kg_mt i).1.cls ≠ "java/lang/invoke/VarHandle" ∧ plainName (kg_mt i).1.cls = true)
set_option maxRecDepth 100000 in
theorem kg_md_ok : (List.range 96).all kg_mdo = true := by decide +kernel
def kg_mpo (q : Nat × Nat × Nat × Nat × Nat) : Bool := decide ((parseMethodDescriptor (kg_mt q.2.2.1).1.desc).map (fun d => d.parameters.length) = some q.2.2.2.2)
set_option maxRecDepth 100000 in
theorem kg_mp_ok : kg_mll.all kg_mpo = true := by decide +kernel
theorem kg_ini_ok : (List.range 7).all (fun c => kg_w1 (.initialized (kg_C c))) = true := by decide +kernel
def kg_mio (q : Nat × Nat × Nat × Nat × Nat) : Bool := decide (3 ≤ q.2.2.2.1 → (kg_mt q.2.2.1).1.name = "<init>" ∧ (kg_mt q.2.2.1).2.2.2 = none)
set_option maxRecDepth 100000 in
theorem kg_mi_ok : kg_mll.all kg_mio = true := by decide +kernel
def kg_cll : List (Nat × Nat × Nat) := [(6, 9, 5), (4, 26, 1), (4, 36, 2), (4, 43, 0), (5, 9, 4), (5, 31, 3)]
theorem kg_cll_ok : kg_cll.all (fun q => decide (q.2.2 < 6) && kg_w1 (.classLink (kg_cn q.1) q.2.1 (kg_C q.2.2)) && kg_w1 (.instantiable (kg_C q.2.2) (kg_nf q.2.2)) && kg_w1 (.initialized (kg_C q.2.2)) && (List.range (kg_nf q.2.2)).all (fun k => decide (defaultValue (kg_ft q.2.2 k) = if kg_fr q.2.2 k = true then .null else .int 0))) = true := by decide +kernel
def kg_sfl : List (Nat × Nat × Nat) := [(5, 42, 1001), (5, 46, 1002)]
theorem kg_sfl_ok : kg_sfl.all (fun q => decide (q.2.2 ∈ [1001, 1002, 1003]) && kg_w1 (.fieldLink (kg_cn q.1) q.2.1 "KeyGraves" (kg_sn q.2.2) "[I")) = true := by decide +kernel
def kg_obl : List (Nat × Nat) := [(0, 3), (1, 3), (2, 3), (3, 3), (4, 3), (5, 3)]
theorem kg_obl_ok : kg_obl.all (fun q => kg_w1 (.methodLink (kg_cn q.1) q.2 Lib.objectInit)) = true := by decide +kernel
def kg_acl : List (Nat × Nat) := [(0, 34), (1, 24), (2, 25), (4, 59)]
theorem kg_acl_ok : kg_acl.all (fun q => kg_w1 (.methodLink (kg_cn q.1) q.2 arraycopyName)) = true := by decide +kernel
def kg_mnl : List (Nat × Nat) := [(4, 116), (5, 241)]
theorem kg_mnl_ok : kg_mnl.all (fun q => kg_w1 (.methodLink (kg_cn q.1) q.2 Lib.Math.min.name)) = true := by decide +kernel
def kg_mxl : List (Nat × Nat) := [(4, 121), (5, 246)]
theorem kg_mxl_ok : kg_mxl.all (fun q => kg_w1 (.methodLink (kg_cn q.1) q.2 Lib.Math.max.name)) = true := by decide +kernel
theorem kg_k_obj : Cond.instanceMethod Lib.objectInit ∈ kg_T := kg_w1_of (by decide +kernel)
theorem kg_k_objc : Cond.code Lib.objectInit ⟨#[0xb1]⟩ 1 none ∈ kg_T := kg_inT (List.mem_append_right _ (List.mem_append_left _ (List.mem_of_getElem? (i := 16) rfl : _ ∈ tables_1_1))) rfl
theorem kg_k_min : Cond.code Lib.Math.min.name Lib.Math.min.code 2 (some .int) ∈ kg_T := kg_inT (List.mem_append_right _ (List.mem_append_right _ (List.mem_append_left _ (List.mem_of_getElem? (i := 82) rfl : _ ∈ tables_1_2)))) rfl
theorem kg_k_mins : Cond.static Lib.Math.min.name ∈ kg_T := kg_w1_of (by decide +kernel)
theorem kg_k_max : Cond.code Lib.Math.max.name Lib.Math.max.code 2 (some .int) ∈ kg_T := kg_inT (List.mem_append_right _ (List.mem_append_right _ (List.mem_append_left _ (List.mem_of_getElem? (i := 85) rfl : _ ∈ tables_1_2)))) rfl
theorem kg_k_maxs : Cond.static Lib.Math.max.name ∈ kg_T := kg_w1_of (by decide +kernel)
theorem kg_k_mi : Cond.initialized "java/lang/Math" ∈ kg_T := kg_w1_of (by decide +kernel)
theorem kg_k_ac : Cond.native arraycopyName ∈ kg_T ∧ Cond.static arraycopyName ∈ kg_T ∧ Cond.initialized "java/lang/System" ∈ kg_T := ⟨kg_w1_of (by decide +kernel), kg_w1_of (by decide +kernel), kg_w1_of (by decide +kernel)⟩
def kg_ctl : List (Nat × Nat × Nat) := [(6, 7, 2147483647), (5, 133, 99999)]
theorem kg_ctl_ok : kg_ctl.all (fun q => kg_w1 (.constant (kg_cn q.1) q.2.1 (nI q.2.2))) = true := by decide +kernel
theorem kg_k_arr : Cond.arrayClass .int ∈ kg_T ∧ Cond.arrayClass .boolean ∈ kg_T ∧ Cond.arrayClass .char ∈ kg_T := ⟨kg_w1_of (by decide +kernel), kg_w1_of (by decide +kernel), kg_w1_of (by decide +kernel)⟩
end
section
/-! CALLS and CONTRACTS over the abstract machine -/
abbrev kg_Qt : Type := Option Value → kg_W → kg_M → Prop
def kg_rm (d N0 NX : Nat) : Room := { frames := d, cells := NX - N0, slots := kg_sz NX - kg_sz N0, locals := 30 * d + 24 }
def kg_wd (i : Nat) : List Cond := .code (kg_mt i).1 (kg_mt i).2.1 (kg_mt i).2.2.1 (kg_mt i).2.2.2 :: kg_T
def kg_Pc (G : kg_G) (args : List Value) (w : kg_W) (M : kg_M) : Array Value → State → Prop := va_Pc (args.map (kg_cv G)) (fun U => kg_Inv G U ∧ kg_WH G w M U.heap ∧ kg_St G U U.heap ∧ kg_b G ≤ U.heap.size)
def kg_Qc (G : kg_G) (NX : Nat) (K : kg_Qt) : Array Value → State → Outcome → State → Prop := fun _ st o t => (∃ (v : Option Value) (w' : kg_W) (M' : kg_M), o = .returned (v.map (kg_cv G)) ∧ w'.1 = NX ∧ K v w' M' ∧ kg_WH G w' M' t.heap) ∧ va_F (kg_A G) st t
/-- method i, called with args at (w, M), at most d deep, answers with K -/
def kg_call (G : kg_G) (d NX i : Nat) (args : List Value) (w : kg_W) (M : kg_M) (K : kg_Qt) : Prop :=
  ∃ d' N1, d' < d ∧ w.1 ≤ N1 ∧ N1 ≤ NX ∧ Met G.1 (kg_mt i).1 (kg_wd i) (kg_rm d' w.1 N1) (kg_Pc G args w M) (kg_Qc G N1 K) (N1 - w.1) (kg_sz N1 - kg_sz w.1) (kg_A G)
/-- the states in which method i stands, called so -/
def kg_X (G : kg_G) (d i N0 NX : Nat) (K : kg_Qt) : kg_Xt := fun p e R s m args below meth c Qf =>
  p.tables.exec = Jvm.exec ∧ c.code = (kg_mt i).2.1 ∧ c.maxLocals = (kg_mt i).2.2.1 ∧ s.vm.findClass (kg_mt i).1.cls = some m.cls ∧ (∀ w ∈ kg_T, w.before args s = true) ∧ kg_Inv G s ∧ kg_St G s s.heap ∧ kg_b G ≤ s.heap.size ∧ R = kg_rm d N0 NX ∧ meth.name = (kg_mt i).1.name ∧ meth.sig.returnType = (kg_mt i).2.2.2 ∧ meth.locks = false ∧ Qf = MQ below (kg_Qc G NX K) args s (NX - N0) (kg_sz NX - kg_sz N0) (kg_A G)
theorem kg_X_B {G : kg_G} {d i N0 NX : Nat} {K : kg_Qt} {own : String} {cc : ByteArray} {nL : Nat} {ini : Bool} (h1 : (kg_mt i).1.cls = own) (h2 : (kg_mt i).2.1 = cc) (h3 : (kg_mt i).2.2.1 = nL) (h4 : ini = true → (kg_mt i).1.name = "<init>") : kg_B G (kg_X G d i N0 NX K) own cc nL d ini N0 NX := by
  intro p e R s m args below meth c Qf ⟨a1, a2, a3, a4, a5, a6, a7, a8, a9, a10, a11, a12, a13⟩
  subst h1; subst h2; subst h3; subst a9
  exact ⟨a1, a2, a3, a4, a5, a6, a7, a8, ⟨Nat.le_refl _, Nat.le_refl _⟩, ⟨Nat.le_refl _, Nat.le_refl _⟩, fun h => a10.trans (h4 h)⟩
def kg_pad (n : Nat) (args : List Value) : List (Option Value) := args.map some ++ List.replicate (n - args.length) none
theorem kg_pad_lg {n : Nat} : ∀ (args : List Value) (k : Nat) {i : Nat} {v : Value}, kg_lg (args.map some ++ List.replicate k none) i = some v → args[i]? = some v
  | [], k, i, v, h => by
    exfalso
    revert i
    induction k with
    | zero => intro i h; simp [kg_lg] at h
    | succ k ih =>
      intro i h
      rw [List.replicate_succ] at h
      cases i with
      | zero => simp [kg_lg] at h
      | succ i => exact ih (i := i) (by simpa [kg_lg] using h)
  | a :: l, k, 0, v, h => by simpa [kg_lg] using h
  | a :: l, k, i + 1, v, h => by
    have := kg_pad_lg (n := n) l k (i := i) (v := v) (by simpa [kg_lg] using h)
    simpa using this
theorem kg_lsl (vs : List Value) (h : ∀ v ∈ vs, v.category = 1) : lg_sl vs = vs.map Slot.val := by
  induction vs with
  | nil => rfl
  | cons a l ih =>
    have h1 := h a List.mem_cons_self
    have h2 := ih (fun v hv => h v (List.mem_cons_of_mem _ hv))
    simp only [lg_sl, List.flatMap_cons, List.map_cons] at h2 ⊢
    rw [h2, if_neg (by omega)]
    rfl
theorem kg_intro {G : kg_G} {d NX i nL : Nat} {args : List Value} {w : kg_W} {M : kg_M} {K : kg_Qt} (hi : i < 96) (hn : (kg_mt i).2.2.1 = nL) (hal : args.length ≤ nL) (hw : w.1 ≤ NX)
    (h : kg_V G (kg_X G d i w.1 NX K) nL w.1 NX 0 (kg_pad nL args) [] w M) : kg_call G (d + 1) NX i args w M K := by
  have hok := List.all_eq_true.mp kg_md_ok i (List.mem_range.mpr hi)
  simp only [kg_mdo, decide_eq_true_eq] at hok
  refine ⟨d, NX, Nat.lt_succ_self d, hw, Nat.le_refl _, ?_⟩
  subst hn
  refine Met.ofW (cc := (kg_mt i).2.1) (maxL := (kg_mt i).2.2.1) (ret := (kg_mt i).2.2.2) hok.2.2.2.2.2 rfl ?_
  intro p e s m args' below meth c s₁ B hml hv
  obtain ⟨rfl, hI, hH, hSt, hb⟩ := hv
  have hts := atoms_spec (ws := kg_wd i) B.pre
  have hX : kg_X G d i w.1 NX K p e (kg_rm d w.1 NX) s m (args.map (kg_cv G)).toArray below meth c (MQ below (kg_Qc G NX K) (args.map (kg_cv G)).toArray s (NX - w.1) (kg_sz NX - kg_sz w.1) (kg_A G)) :=
    ⟨B.exec, B.bytes, hml, findClass_of_methodNamed B.named, fun w hw => hts w (List.mem_cons_of_mem _ hw), hI, hSt, hb, rfl, (name_of_methodNamed B.named B.method).1, B.returns, B.notSynchronized, rfl⟩
  have k := h (Nat.le_refl _) hw p e _ s m _ below meth c _ hX s.heap [] ((lg_sl (args.map (kg_cv G)) ++ List.replicate ((kg_mt i).2.2.1 - (lg_sl (args.map (kg_cv G))).length) Slot.unset).toArray) hH va_S.rf ?_
  · rw [lg_entry_eq]
    rw [Nat.sub_self, Nat.sub_self] at k
    exact k
  · have hc : ∀ v ∈ args.map (kg_cv G), v.category = 1 := fun v hv => by
      obtain ⟨u, -, rfl⟩ := List.mem_map.mp hv
      exact kg_cat G u
    have hle : (lg_sl (args.map (kg_cv G))).length = args.length := by rw [kg_lsl _ hc]; simp
    have hl := lv_entry (args.map (kg_cv G)) (n := (kg_mt i).2.2.1) (by rw [hle]; exact hal)
    refine ⟨hl.1, hl.2.1, fun q hq => ?_⟩
    obtain ⟨v, h1, h2, h3⟩ := kg_cl_of hq
    have h4 := kg_pad_lg (n := 0) args _ h2
    have hlt : q.1 < args.length := (List.getElem?_eq_some_iff.mp h4).1
    rw [kg_lsl _ hc, h3]
    have e : (args.map (kg_cv G))[q.1]? = some (kg_cv G v) := by rw [List.getElem?_map, h4]; rfl
    rw [List.getElem?_toArray, List.getElem?_append_left (by simpa using hlt), List.getElem?_map, e]
    rfl
theorem kg_call_mono {G : kg_G} {d e NX i : Nat} {args : List Value} {w : kg_W} {M : kg_M} {K : kg_Qt} (h : kg_call G d NX i args w M K) (hde : d ≤ e) : kg_call G e NX i args w M K := by
  obtain ⟨d', N1, h1, h2⟩ := h
  exact ⟨d', N1, by omega, h2⟩
section
variable {G : kg_G} {X : kg_Xt} {own : String} {cc : ByteArray} {nL d : Nat} {ini : Bool} {N0 NX : Nat} {pc : Nat} {ls : List (Option Value)} {st : List Value} {w : kg_W} {M : kg_M}
/-- behind a call's run -/
theorem kg_after {p : Program} {e : Env} {R : Room} {s : State} {m : MethodId} {args a : Array Value} {below : List Frame} {meth : Method} {c : Code} {Qf : State → Prop} {H : Heap} {locs : List Loc} {A : Array Slot} {K : kg_Qt} {N1 : Nat} {stc : List Value}
    (hN : w.1 ≤ N1) (hN1 : N1 ≤ NX) (g1 : N0 ≤ w.1) (hX : X p e R s m args below meth c Qf) (hS : va_S (kg_A G) s.heap H locs) (hl : lv_has A nL (kg_cl G nL ls))
    (hr : va_Run p G.1 e R s m args below meth c H locs (w.1 - N0) (kg_sz w.1 - kg_sz N0) (N1 - w.1) (kg_sz N1 - kg_sz w.1) (F0 m pc A stc) (st.map (kg_cv G)) (kg_Qc G N1 K a) (kg_A G))
    (kk : ∀ (v : Option Value) (w' : kg_W) (M' : kg_M), w'.1 = N1 → K v w' M' → kg_V G X nL N0 NX (pc + 3) ls (v.toList ++ st) w' M') : W p G.1 e R s m args below meth c H locs (w.1 - N0) (kg_sz w.1 - kg_sz N0) Qf (F0 m pc A stc) := by
  intro T hT X0
  obtain ⟨v, st₀, t, T', L, h0, X', hL, e1, e2, ⟨⟨v', w', M', ho, hw', hK, hWH⟩, hz, hk⟩, stp⟩ := hr T hT X0
  have m1 := kg_sz_mono hN
  have m2 := kg_sz_mono g1
  cases ho
  rw [h0] at hz hk
  have k := kk v' w' M' hw' hK (by omega) (by omega) p e R s m args below meth c Qf hX T'.heap (locs ++ L) A (by rw [e1]; exact hWH) ⟨by rw [e1]; exact Nat.le_trans hS.1 hz, fun q a1 a2 => by rw [e1, hk q (Nat.lt_of_lt_of_le a1 hS.1) a2]; exact hS.2.1 q a1 a2, fun q hq => (List.mem_append.mp hq).elim (hS.2.2 q) (hL q)⟩ hl
  obtain ⟨t2, a1, b1⟩ := k T' rfl (by rw [hw', show N1 - N0 = w.1 - N0 + (N1 - w.1) by omega, show kg_sz N1 - kg_sz N0 = kg_sz w.1 - kg_sz N0 + (kg_sz N1 - kg_sz w.1) by omega]; exact X')
  refine ⟨t2, stp t2 ?_, b1⟩
  have e9 : (v'.toList ++ st).map (kg_cv G) = (v'.map (kg_cv G)).toList ++ st.map (kg_cv G) := by cases v' <;> simp
  rw [e9] at a1
  exact a1
theorem kg_blind (G : kg_G) (as : List Value) (w : kg_W) (M : kg_M) : FrameBlind (kg_Pc G as w M) := by
  intro a U g mk ⟨h1, h2, h3, h4, h5⟩
  exact ⟨h1, kg_Inv.same (s := U) (U := U.calling g mk a) rfl h2, h3, kg_St.moved (s := U) (U := U.calling g mk a) (Vm.Alike.refl U.vm) h4, h5⟩
theorem kg_pre {s : State} {H : Heap} {locs : List Loc} {as : List Value} (hI : kg_Inv G s) (hSt : kg_St G s s.heap) (hb : kg_b G ≤ s.heap.size) (hH : kg_WH G w M H) (hS : va_S (kg_A G) s.heap H locs) : ∀ U : State, U.heap = H → s.WarmedH U.vm → kg_Pc G as w M (as.map (kg_cv G)).toArray U := by
  intro U hU hW
  refine ⟨rfl, hI.moved hW, by rw [hU]; exact hH, ?_, by rw [hU]; exact Nat.le_trans hb hS.1⟩
  rw [hU]
  exact kg_St.moved hW.alike (hSt.kept hb hS.2.1)
theorem kg_good {l : List Cond} (h : ∀ w ∈ l, w ∈ kg_T) : GoodIn kg_T l := fun w hw => ⟨h w hw, good_of_word (List.mem_filter.mp (h w hw)).2⟩
theorem kg_wd_in {i : Nat} (hi : i < 96) : ∀ w ∈ kg_wd i, w ∈ kg_T := by
  intro w hw
  rcases List.mem_cons.mp hw with rfl | h
  · refine kg_code_in (kg_mt i) ?_
    have hl : i < kg_ms.length := hi
    rw [kg_mt, List.getD_eq_getElem?_getD, List.getElem?_eq_getElem hl]
    exact List.getElem_mem hl
  · exact h
theorem kg_mdf {i : Nat} (hi : i < 96) : (kg_mt i).1.cls = kg_C (kg_mc i) ∧ kg_mc i < 7 ∧ (kg_mt i).2.2.1 ≤ 11 ∧ (kg_mt i).1.cls ≠ "java/lang/invoke/MethodHandle" ∧ (kg_mt i).1.cls ≠ "java/lang/invoke/VarHandle" ∧ plainName (kg_mt i).1.cls = true := by
  have hok := List.all_eq_true.mp kg_md_ok i (List.mem_range.mpr hi)
  simpa only [kg_mdo, decide_eq_true_eq] using hok
theorem kg_iniT {c : Nat} (hc : c < 7) : Cond.initialized (kg_C c) ∈ kg_T := kg_w1_of (List.all_eq_true.mp kg_ini_ok c (List.mem_range.mpr hc))
theorem kg_room {d d' N0 N1 : Nat} {R : Room} {i : Nat} (hi : i < 96) (hd : d' < d) (hR : d ≤ R.frames ∧ 30 * d + 24 ≤ R.locals) : (kg_rm d' N0 N1).frames + 1 ≤ R.frames ∧ 8 + ((kg_mt i).2.2.1 + 11) + (kg_rm d' N0 N1).locals ≤ R.locals := by
  have h := (kg_mdf hi).2.2.1
  simp only [kg_rm]
  omega
theorem kg_cellroom {N1 : Nat} {R : Room} (g1 : N0 ≤ w.1) (h1 : w.1 ≤ N1) (h2 : N1 ≤ NX) (hR : NX - N0 ≤ R.cells ∧ kg_sz NX - kg_sz N0 ≤ R.slots) : w.1 - N0 + (N1 - w.1) ≤ R.cells ∧ kg_sz w.1 - kg_sz N0 + (kg_sz N1 - kg_sz w.1) ≤ R.slots := by
  have m1 := kg_sz_mono g1
  have m2 := kg_sz_mono h1
  have m3 := kg_sz_mono h2
  omega
theorem kg_mll_of {o pool i k n : Nat} (h : (o, pool, i, k, n) ∈ kg_mll) : ∃ p1 p2 p3, kg_mlo (o, pool, i, k, n, p1, p2, p3) = true := by
  obtain ⟨⟨o8, i8, m8, k8, n8, p1, p2, p3⟩, h8, e8⟩ := List.mem_map.mp h
  simp only [Prod.mk.injEq] at e8
  obtain ⟨rfl, rfl, rfl, rfl, rfl⟩ := e8
  exact ⟨p1, p2, p3, List.all_eq_true.mp kg_ml8_ok _ h8⟩
theorem kg_c_virt (hB : kg_B G X own cc nL d ini N0 NX) {K : kg_Qt} {o pool i n p : Nat} {as : List Value} (ho : kg_cn o = own) (hi : i < 96) (hm : (o, pool, i, 0, n) ∈ kg_mll) (hlen : as.length = n) (hp : p < 1000) (hpw : p < w.1) (hkd : kg_kd p = (4, kg_mc i)) (hst : st.length ≤ 8) (hd : decode cc pc = .ok (.invokevirtual pool, 3))
    (kk : kg_call G d NX i (.ref p :: as) w M K) (hK : ∀ v w' M', K v w' M' → kg_V G X nL N0 NX (pc + 3) ls (v.toList ++ st) w' M') : kg_V G X nL N0 NX pc ls (as.reverse ++ .ref p :: st) w M := by
  intro g1 g2 p' e R s m args below meth c' Qf hX H locs A hH hS hl
  obtain ⟨hx, hb, hml, hown, hts, hI, hSt, hbs, hR, hC, -⟩ := hB _ _ _ _ _ _ _ _ _ _ hX
  obtain ⟨d', N1, hd', hw1, hw2, hMet⟩ := kk
  obtain ⟨p1, p2, p3, ok⟩ := kg_mll_of hm
  simp only [kg_mlo, Bool.and_eq_true] at ok
  have okp := List.all_eq_true.mp kg_mp_ok _ hm
  simp only [kg_mpo, decide_eq_true_eq] at okp
  have md := kg_mdf hi
  have hcl := md.1
  subst ho
  refine kg_after (st := st) (K := K) (a := ((Value.ref p :: as).map (kg_cv G)).toArray) hw1 hw2 g1 hX hS hl ?_ (fun v w' M' _ h => hK v w' M' h)
  have cw := cwV (R := R) (s := s) (args := args) (own := kg_cn o) (index := pool) (C := (kg_mt i).1.cls) (y := (kg_mt i).1) (bytes := (kg_mt i).2.1) (maxL := (kg_mt i).2.2.1) (ret := (kg_mt i).2.2.2) (ws := kg_wd i) (ws' := kg_T) (rm := kg_rm d' w.1 N1) (mc := N1 - w.1) (ms := kg_sz N1 - kg_sz w.1) (Ts := kg_T) n hts
    (kg_good (fun w hw => by
      rcases List.mem_append.mp hw with h | h
      · simp only [List.mem_cons, List.not_mem_nil, or_false] at h
        rcases h with rfl | rfl | rfl | rfl
        · exact kg_wp_of ok.2.1.1
        · exact kg_wp_of ok.2.1.2
        · exact kg_wp_of ok.2.2
        · rw [hcl]; exact kg_iniT md.2.1
      · exact kg_wd_in hi w h)) rfl rfl rfl ⟨rfl, md.2.2.2.1, md.2.2.2.2.1, okp⟩ (kg_room hi hd' hR)
  have hpr := kg_pre (as := Value.ref p :: as) hI hSt hbs hH hS
  have hrc := va_recv (q0 := p) (ci := kg_mc i) hI.1 hH.2 (kg_F_cl (kg_kd_c hkd)) (by rw [kg_wl_at hpw, kg_ce_o hkd])
  have hst9 : (as.reverse ++ Value.ref p :: st).map (kg_cv G) = (as.map (kg_cv G)).reverse ++ Value.ref (kg_b G + p) :: st.map (kg_cv G) := by simp [kg_cvref G hp]
  rw [List.map_cons, kg_cvref G hp] at hpr ⊢
  rw [← hcl] at hrc
  rw [hst9]
  exact va_runV (As := as.map (kg_cv G)) (rest := st.map (kg_cv G)) (b := kg_b G + p) (g := F0 m pc A ((as.map (kg_cv G)).reverse ++ Value.ref (kg_b G + p) :: st.map (kg_cv G))) ⟨hx, hb, hml, hown, hts⟩ hMet cw ⟨kg_blind _ _ _ _, hrc, hpr⟩ rfl (by simpa using hlen) hl.1 rfl (lv_room (by rw [kg_cats]; exact hst)) hd (kg_cellroom g1 hw1 hw2 hC)
theorem kg_c_stat (hB : kg_B G X own cc nL d ini N0 NX) {K : kg_Qt} {o pool i n : Nat} {as : List Value} (ho : kg_cn o = own) (hi : i < 96) (hm : (o, pool, i, 1, n) ∈ kg_mll) (hlen : as.length = n) (hst : st.length ≤ 8) (hd : decode cc pc = .ok (.invokestatic pool, 3))
    (kk : kg_call G d NX i as w M K) (hK : ∀ v w' M', K v w' M' → kg_V G X nL N0 NX (pc + 3) ls (v.toList ++ st) w' M') : kg_V G X nL N0 NX pc ls (as.reverse ++ st) w M := by
  intro g1 g2 p' e R s m args below meth c' Qf hX H locs A hH hS hl
  obtain ⟨hx, hb, hml, hown, hts, hI, hSt, hbs, hR, hC, -⟩ := hB _ _ _ _ _ _ _ _ _ _ hX
  obtain ⟨d', N1, hd', hw1, hw2, hMet⟩ := kk
  obtain ⟨p1, p2, p3, ok⟩ := kg_mll_of hm
  simp only [kg_mlo, Bool.and_eq_true] at ok
  have okp := List.all_eq_true.mp kg_mp_ok _ hm
  simp only [kg_mpo, decide_eq_true_eq] at okp
  have md := kg_mdf hi
  have hcl := md.1
  subst ho
  refine kg_after (st := st) (K := K) (a := (as.map (kg_cv G)).toArray) hw1 hw2 g1 hX hS hl ?_ (fun v w' M' _ h => hK v w' M' h)
  have cw := va_cwS (R := R) (s := s) (args := args) (own := kg_cn o) (index := pool) (y := (kg_mt i).1) (bytes := (kg_mt i).2.1) (maxL := (kg_mt i).2.2.1) (ret := (kg_mt i).2.2.2) (ws := kg_wd i) (ws' := kg_T) (rm := kg_rm d' w.1 N1) (mc := N1 - w.1) (ms := kg_sz N1 - kg_sz w.1) (Ts := kg_T) n hts
    (kg_good (fun w hw => by
      rcases List.mem_append.mp hw with h | h
      · simp only [List.mem_cons, List.not_mem_nil, or_false] at h
        rcases h with rfl | rfl | rfl
        · exact kg_wp_of ok.2.1
        · exact kg_wp_of ok.2.2
        · rw [hcl]; exact kg_iniT md.2.1
      · exact kg_wd_in hi w h)) rfl rfl rfl ⟨md.2.2.2.1, md.2.2.2.2.1, okp⟩ (kg_room hi hd' hR)
  exact va_runS (As := as.map (kg_cv G)) (rest := st.map (kg_cv G)) (g := F0 m pc A ((as.reverse ++ st).map (kg_cv G))) ⟨hx, hb, hml, hown, hts⟩ hMet cw ⟨kg_blind _ _ _ _, kg_pre hI hSt hbs hH hS⟩ rfl (by simpa using hlen) hl.1 (by simp) (lv_room (by rw [kg_cats]; exact hst)) hd (kg_cellroom g1 hw1 hw2 hC)
theorem kg_c_statN (hB : kg_B G X own cc nL d ini N0 NX) {K : kg_Qt} {o pool i n : Nat} {as : List Value} (ho : kg_cn o = own) (hi : i < 96) (hm : (o, pool, i, 2, n) ∈ kg_mll) (hlen : as.length = n) (hst : st.length ≤ 8) (hd : decode cc pc = .ok (.invokestatic pool, 3))
    (kk : kg_call G d NX i as w M K) (hK : ∀ v w' M', K v w' M' → kg_V G X nL N0 NX (pc + 3) ls (v.toList ++ st) w' M') : kg_V G X nL N0 NX pc ls (as.reverse ++ st) w M := by
  intro g1 g2 p' e R s m args below meth c' Qf hX H locs A hH hS hl
  obtain ⟨hx, hb, hml, hown, hts, hI, hSt, hbs, hR, hC, -⟩ := hB _ _ _ _ _ _ _ _ _ _ hX
  obtain ⟨d', N1, hd', hw1, hw2, hMet⟩ := kk
  obtain ⟨p1, p2, p3, ok⟩ := kg_mll_of hm
  simp only [kg_mlo, Bool.and_eq_true, decide_eq_true_eq] at ok
  have okp := List.all_eq_true.mp kg_mp_ok _ hm
  simp only [kg_mpo, decide_eq_true_eq] at okp
  have md := kg_mdf hi
  have hcl := md.1
  subst ho
  refine kg_after (st := st) (K := K) (a := (as.map (kg_cv G)).toArray) hw1 hw2 g1 hX hS hl ?_ (fun v w' M' _ h => hK v w' M' h)
  have cw := va_cnB (R := R) (s := s) (args := args) (own := kg_cn o) (index := pool) (host := "KeyGraves") (y := (kg_mt i).1) (bytes := (kg_mt i).2.1) (maxL := (kg_mt i).2.2.1) (ret := (kg_mt i).2.2.2) (ws := kg_wd i) (ws' := kg_T) (rm := kg_rm d' w.1 N1) (mc := N1 - w.1) (ms := kg_sz N1 - kg_sz w.1) (Ts := kg_T) n hts (kg_good (kg_wd_in hi)) rfl rfl rfl (hI.2.1 _ ok.2.1) (by rw [hcl]; exact hts _ (kg_iniT md.2.1)) ⟨md.2.2.2.1, md.2.2.2.2.1, okp⟩ (kg_room hi hd' hR)
  exact va_runSN (As := as.map (kg_cv G)) (rest := st.map (kg_cv G)) (g := F0 m pc A ((as.reverse ++ st).map (kg_cv G))) ⟨hx, hb, hml, hown, hts⟩ hMet ⟨cw, hts _ (kg_wp_of ok.2.2), trivial⟩ ⟨kg_blind _ _ _ _, kg_pre hI hSt hbs hH hS⟩ rfl (by simpa using hlen) hl.1 (by simp) (lv_room (by rw [kg_cats]; exact hst)) hd (kg_cellroom g1 hw1 hw2 hC)
theorem kg_c_init (hB : kg_B G X own cc nL d ini N0 NX) {K : kg_Qt} {o pool i p : Nat} (ho : kg_cn o = own) (hi : i < 96) (hm : (o, pool, i, 3, 0) ∈ kg_mll) (hp : p < 1000) (hst : st.length ≤ 8) (hd : decode cc pc = .ok (.invokespecial pool, 3))
    (kk : kg_call G d NX i [.ref p] w M K) (hK : ∀ v w' M', K v w' M' → kg_V G X nL N0 NX (pc + 3) ls (v.toList ++ st) w' M') : kg_V G X nL N0 NX pc ls (.ref p :: st) w M := by
  intro g1 g2 p' e R s m args below meth c' Qf hX H locs A hH hS hl
  obtain ⟨hx, hb, hml, hown, hts, hI, hSt, hbs, hR, hC, -⟩ := hB _ _ _ _ _ _ _ _ _ _ hX
  obtain ⟨d', N1, hd', hw1, hw2, hMet⟩ := kk
  obtain ⟨p1, p2, p3, ok⟩ := kg_mll_of hm
  simp only [kg_mlo, Bool.and_eq_true] at ok
  have okp := List.all_eq_true.mp kg_mp_ok _ hm
  simp only [kg_mpo, decide_eq_true_eq] at okp
  have oki := List.all_eq_true.mp kg_mi_ok _ hm
  simp only [kg_mio, decide_eq_true_eq] at oki
  have oki := oki (Nat.le_refl 3)
  have md := kg_mdf hi
  have hcl := md.1
  subst ho
  refine kg_after (st := st) (K := K) (a := ([Value.ref p].map (kg_cv G)).toArray) hw1 hw2 g1 hX hS hl ?_ (fun v w' M' _ h => hK v w' M' h)
  have hwd : kg_wd i = Cond.code (kg_mt i).1 (kg_mt i).2.1 (kg_mt i).2.2.1 none :: kg_T := by rw [kg_wd, oki.2]
  have cw := cwI (R := R) (s := s) (args := args) (own := kg_cn o) (index := pool) (y := (kg_mt i).1) (bytes := (kg_mt i).2.1) (maxL := (kg_mt i).2.2.1) (ws := kg_wd i) (ws' := kg_T) (rm := kg_rm d' w.1 N1) (mc := N1 - w.1) (ms := kg_sz N1 - kg_sz w.1) (Ts := kg_T) 0 hts (kg_good (kg_wd_in hi)) hwd rfl rfl (by rw [hcl]; exact hts _ (kg_iniT md.2.1)) (hts _ (kg_wp_of ok.2.1)) (hts _ (kg_wp_of ok.2.2)) oki.1 ⟨md.2.2.2.1, md.2.2.2.2.1, okp⟩ (kg_room hi hd' hR)
  have hpr := kg_pre (as := [Value.ref p]) hI hSt hbs hH hS
  rw [List.map_cons, kg_cvref G hp] at hpr ⊢
  exact va_runI (As := []) (rest := st.map (kg_cv G)) (b := kg_b G + p) (g := F0 m pc A (Value.ref (kg_b G + p) :: st.map (kg_cv G))) ⟨hx, hb, hml, hown, hts⟩ hMet cw ⟨kg_blind _ _ _ _, hpr⟩ rfl rfl hl.1 rfl (lv_room (by rw [kg_cats]; exact hst)) hd (kg_cellroom g1 hw1 hw2 hC)
theorem kg_c_initN (hB : kg_B G X own cc nL d ini N0 NX) {K : kg_Qt} {o pool i p : Nat} (ho : kg_cn o = own) (hi : i < 96) (hm : (o, pool, i, 4, 0) ∈ kg_mll) (hp : p < 1000) (hst : st.length ≤ 8) (hd : decode cc pc = .ok (.invokespecial pool, 3))
    (kk : kg_call G d NX i [.ref p] w M K) (hK : ∀ v w' M', K v w' M' → kg_V G X nL N0 NX (pc + 3) ls (v.toList ++ st) w' M') : kg_V G X nL N0 NX pc ls (.ref p :: st) w M := by
  intro g1 g2 p' e R s m args below meth c' Qf hX H locs A hH hS hl
  obtain ⟨hx, hb, hml, hown, hts, hI, hSt, hbs, hR, hC, -⟩ := hB _ _ _ _ _ _ _ _ _ _ hX
  obtain ⟨d', N1, hd', hw1, hw2, hMet⟩ := kk
  obtain ⟨p1, p2, p3, ok⟩ := kg_mll_of hm
  simp only [kg_mlo, Bool.and_eq_true, decide_eq_true_eq] at ok
  have okp := List.all_eq_true.mp kg_mp_ok _ hm
  simp only [kg_mpo, decide_eq_true_eq] at okp
  have oki := List.all_eq_true.mp kg_mi_ok _ hm
  simp only [kg_mio, decide_eq_true_eq] at oki
  have oki := oki (by omega)
  have md := kg_mdf hi
  have hcl := md.1
  subst ho
  refine kg_after (st := st) (K := K) (a := ([Value.ref p].map (kg_cv G)).toArray) hw1 hw2 g1 hX hS hl ?_ (fun v w' M' _ h => hK v w' M' h)
  have hwd : kg_wd i = Cond.code (kg_mt i).1 (kg_mt i).2.1 (kg_mt i).2.2.1 none :: kg_T := by rw [kg_wd, oki.2]
  have cw := va_cnB (R := R) (s := s) (args := args) (own := kg_cn o) (index := pool) (host := "KeyGraves") (y := (kg_mt i).1) (bytes := (kg_mt i).2.1) (maxL := (kg_mt i).2.2.1) (ret := none) (ws := kg_wd i) (ws' := kg_T) (rm := kg_rm d' w.1 N1) (mc := N1 - w.1) (ms := kg_sz N1 - kg_sz w.1) (Ts := kg_T) 0 hts (kg_good (kg_wd_in hi)) hwd rfl rfl (hI.2.1 _ ok.2.1) (by rw [hcl]; exact hts _ (kg_iniT md.2.1)) ⟨md.2.2.2.1, md.2.2.2.2.1, okp⟩ (kg_room hi hd' hR)
  have hpr := kg_pre (as := [Value.ref p]) hI hSt hbs hH hS
  rw [List.map_cons, kg_cvref G hp] at hpr ⊢
  exact va_runIN (As := []) (rest := st.map (kg_cv G)) (b := kg_b G + p) (g := F0 m pc A (Value.ref (kg_b G + p) :: st.map (kg_cv G))) ⟨hx, hb, hml, hown, hts⟩ hMet ⟨cw, oki.1, hts _ (kg_wp_of ok.2.2)⟩ ⟨kg_blind _ _ _ _, hpr⟩ rfl rfl hl.1 rfl (lv_room (by rw [kg_cats]; exact hst)) hd (kg_cellroom g1 hw1 hw2 hC)
end
section
variable {G : kg_G} {d i N0 NX nL pc : Nat} {K : kg_Qt} {ls : List (Option Value)} {w : kg_W} {M : kg_M} {cc : ByteArray}
theorem kg_r_iret (hc : (kg_mt i).2.1 = cc) {x : Int32} (hd : decode cc pc = .ok (.ireturn, 1)) (hw : w.1 = NX) (ht : (kg_mt i).2.2.2 = some .int ∨ ((kg_mt i).2.2.2 = some .boolean ∧ (x = nI 0 ∨ x = nI 1))) (k : K (some (.int x)) w M) : kg_V G (kg_X G d i N0 NX K) nL N0 NX pc ls [.int x] w M := by
  intro g1 g2 p' e R s m args below meth c' Qf ⟨a1, a2, a3, a4, a5, a6, a7, a8, a9, a10, a11, a12, a13⟩ H locs A hH hS hl
  subst a13; subst hw; subst hc
  rcases ht with ht | ⟨ht, hx⟩
  · exact W.zret (ty := .int) a1 a2 (a11.trans ht) rfl (fun t ht _ => ⟨⟨some (.int x), w, M, rfl, rfl, k, by rw [ht]; exact hH⟩, hS.F ht⟩) hS.2.2 hd a12
  · exact W.zret (ty := .boolean) a1 a2 (a11.trans ht) (by rcases hx with rfl | rfl <;> rfl) (fun t ht _ => ⟨⟨some (.int x), w, M, rfl, rfl, k, by rw [ht]; exact hH⟩, hS.F ht⟩) hS.2.2 hd a12
theorem kg_r_vret (hc : (kg_mt i).2.1 = cc) (hd : decode cc pc = .ok (.return_, 1)) (hw : w.1 = NX) (ht : (kg_mt i).2.2.2 = none) (k : K none w M) : kg_V G (kg_X G d i N0 NX K) nL N0 NX pc ls [] w M := by
  intro g1 g2 p' e R s m args below meth c' Qf ⟨a1, a2, a3, a4, a5, a6, a7, a8, a9, a10, a11, a12, a13⟩ H locs A hH hS hl
  subst a13; subst hw; subst hc
  exact W.vret a1 a2 (a11.trans ht) (fun t ht _ => ⟨⟨none, w, M, rfl, rfl, k, by rw [ht]; exact hH⟩, hS.F ht⟩) hS.2.2 hd a12
end
end
section
/-! THE RUN: a method's rows as numbers, what they do, and that the machine does it -/
abbrev kg_Op : Type := Nat × Nat × Nat × Nat × List (Nat × Nat)
abbrev kg_K : Type := Nat → List (Option Value) → List Value → kg_W → kg_M → Prop
abbrev kg_Ct : Type := Nat → List Value → kg_W → kg_M → kg_Qt → Prop
def kg_n (a : Nat) : Int32 := Int32.ofInt (-(a : Int))
def kg_at (n : Nat) (i : Int32) (K : Nat → Prop) : Prop := ∃ j, j < n ∧ i = nI j ∧ K j
def kg_kont (k : kg_K) (nx : Nat) (ls : List (Option Value)) (r : List Value) : kg_Qt := fun v w M => k nx ls (v.toList ++ r) w M
def kg_args : Nat → List Value → List Value → (List Value → List Value → Prop) → Prop
  | 0, st, acc, K => K acc st
  | _ + 1, [], _, _ => False
  | n + 1, v :: st, acc, K => kg_args n st (v :: acc) K
def kg_br (c A B : Prop) : Prop := (c → A) ∧ (¬ c → B)
def kg_sw : List (Nat × Nat) → Nat → Int32 → (Nat → Prop) → Prop
  | [], d, _, K => K d
  | (z, t) :: l, d, x, K => (x = nI z → K t) ∧ (¬ x = nI z → kg_sw l d x K)
def kg_vi (o : Option Value) (K : Int32 → Prop) : Prop := match o with
  | some (.int x) => K x
  | _ => False
def kg_vr (o : Option Value) (K : Nat → Prop) : Prop := match o with
  | some (.ref x) => K x
  | _ => False
def kg_1i (st : List Value) (K : Int32 → List Value → Prop) : Prop := match st with
  | .int x :: r => K x r
  | _ => False
def kg_1r (st : List Value) (K : Nat → List Value → Prop) : Prop := match st with
  | .ref x :: r => K x r
  | _ => False
def kg_2i (st : List Value) (K : Int32 → Int32 → List Value → Prop) : Prop := match st with
  | .int y :: .int x :: r => K x y r
  | _ => False
def kg_ir (st : List Value) (K : Int32 → Nat → List Value → Prop) : Prop := match st with
  | .int i :: .ref p :: r => K i p r
  | _ => False
def kg_iir (st : List Value) (K : Int32 → Int32 → Nat → List Value → Prop) : Prop := match st with
  | .int x :: .int i :: .ref p :: r => K x i p r
  | _ => False
def kg_01 (x : Int32) : Prop := x = nI 0 ∨ x = nI 1
/-- a load of an int array's place -/
def kg_ld (G : kg_G) (w : kg_W) (M : kg_M) (i : Int32) (p : Nat) (K : Int32 → Prop) : Prop :=
  (p = 1000 → kg_at G.2.2.2.2.2.1 i (fun j => K (G.2.2.2.2.2.2 j))) ∧ (1000 < p → p ≤ 1003 ∧ kg_at 5 i (fun j => K (kg_sv p j))) ∧ (p < 1000 → p < w.1 ∧ (kg_kd p).1 = 0 ∧ kg_at (kg_kd p).2 i (fun j => K (M p j)))
def kg_obj (w : kg_W) (p c : Nat) (P : Prop) : Prop := p < w.1 ∧ p < 1000 ∧ kg_kd p = (4, c) ∧ P
def kg_exs (G : kg_G) (NX : Nat) (call : kg_Ct) (ret : kg_Qt) (t a b c : Nat) (l : List (Nat × Nat)) (nx : Nat) (k : kg_K) (ls : List (Option Value)) (st : List Value) (w : kg_W) (M : kg_M) : Prop := match t with
  | 0 => k nx ls (.int (nI a) :: st) w M
  | 1 => k nx ls (.int (kg_n a) :: st) w M
  | 2 => kg_vi (kg_lg ls a) (fun x => k nx ls (.int x :: st) w M)
  | 3 => kg_vr (kg_lg ls a) (fun x => k nx ls (.ref x :: st) w M)
  | 4 => kg_1i st (fun x r => k nx (kg_ls ls a (.int x)) r w M)
  | 5 => kg_1r st (fun x r => k nx (kg_ls ls a (.ref x)) r w M)
  | 6 => kg_vi (kg_lg ls a) (fun x => k nx (kg_ls ls a (.int (x + nI b))) st w M)
  | 7 => kg_2i st (fun x y r => k nx ls (.int (x + y) :: r) w M)
  | 8 => kg_2i st (fun x y r => k nx ls (.int (x - y) :: r) w M)
  | 9 => kg_2i st (fun x y r => k nx ls (.int (x * y) :: r) w M)
  | 10 => kg_2i st (fun x y r => ¬ y = 0 ∧ k nx ls (.int (x - x / y * y) :: r) w M)
  | 11 => kg_2i st (fun x y r => k nx ls (.int (x &&& y) :: r) w M)
  | 12 => kg_1i st (fun x r => k nx ls (.int (x.toUInt32 % 65536).toInt32 :: r) w M)
  | 13 => (match st with | v :: r => k nx ls (v :: v :: r) w M | _ => False)
  | 14 => (match st with | v :: u :: r => k nx ls (v :: u :: v :: u :: r) w M | _ => False)
  | 15 => (match st with | _ :: r => k nx ls r w M | _ => False)
  | 16 => kg_1i st (fun x r => kg_br (kg_cmp a x (nI 0)) (k b ls r w M) (k nx ls r w M))
  | 17 => kg_2i st (fun x y r => kg_br (kg_cmp a x y) (k b ls r w M) (k nx ls r w M))
  | 18 => k b ls st w M
  | 19 => kg_1i st (fun x r => kg_sw l b x (fun t => k t ls r w M))
  | 20 => kg_1i st (fun x r => kg_sw l b x (fun t => k t ls r w M))
  | 21 => kg_1r st (fun p r => kg_obj w p a (k nx ls (.int (M p b) :: r) w M))
  | 22 => kg_1r st (fun p r => kg_obj w p a (w.2 p b ≠ 0 ∧ w.2 p b < 1000 ∧ k nx ls (.ref (w.2 p b) :: r) w M))
  | 23 => (match st with | .int x :: .ref p :: r => kg_obj w p a (k nx ls r w (kg_wr M p b x)) | _ => False)
  | 24 => (match st with | .int x :: .ref p :: r => kg_obj w p a (kg_01 x ∧ k nx ls r w (kg_wr M p b x)) | _ => False)
  | 25 => (match st with | .ref q :: .ref p :: r => kg_obj w p a (q ≠ 0 ∧ q < 1000 ∧ k nx ls r (kg_wrr w p b q) M) | _ => False)
  | 26 => k nx ls (.ref a :: st) w M
  | 27 => kg_ir st (fun i p r => kg_ld G w M i p (fun x => k nx ls (.int x :: r) w M))
  | 28 => kg_ir st (fun i p r => p < w.1 ∧ p < 1000 ∧ (kg_kd p).1 = 1 ∧ kg_at (kg_kd p).2 i (fun j => k nx ls (.int (M p j) :: r) w M))
  | 29 => kg_ir st (fun i p r => p < w.1 ∧ p < 1000 ∧ (kg_kd p).1 = 2 ∧ kg_at (kg_kd p).2 i (fun j => k nx ls (.int (M p j) :: r) w M))
  | 30 => kg_ir st (fun i p r => p < w.1 ∧ p < 1000 ∧ (kg_kd p).1 = 3 ∧ kg_at (kg_kd p).2 i (fun j => w.2 p j ≠ 0 ∧ w.2 p j < 1000 ∧ k nx ls (.ref (w.2 p j) :: r) w M))
  | 31 => kg_iir st (fun x i p r => p < w.1 ∧ p < 1000 ∧ (kg_kd p).1 = 0 ∧ kg_at (kg_kd p).2 i (fun j => k nx ls r w (kg_wr M p j x)))
  | 32 => kg_iir st (fun x i p r => p < w.1 ∧ p < 1000 ∧ (kg_kd p).1 = 1 ∧ kg_01 x ∧ kg_at (kg_kd p).2 i (fun j => k nx ls r w (kg_wr M p j x)))
  | 33 => kg_iir st (fun x i p r => p < w.1 ∧ p < 1000 ∧ (kg_kd p).1 = 2 ∧ kg_at 65536 x (fun z => kg_at (kg_kd p).2 i (fun j => k nx ls r w (kg_wr M p j (nI z)))))
  | 34 => (match st with | .ref q :: .int i :: .ref p :: r => p < w.1 ∧ p < 1000 ∧ (kg_kd p).1 = 3 ∧ q ≠ 0 ∧ q < 1000 ∧ q < w.1 ∧ kg_kd q = (4, 4) ∧ kg_at (kg_kd p).2 i (fun j => k nx ls r (kg_wrr w p j q) M) | _ => False)
  | 35 => (match st with | .ref p :: r => p = 1000 ∧ k nx ls (.int (nI G.2.2.2.2.2.1) :: r) w M | _ => False)
  | 36 => w.1 < 125 ∧ w.1 + 1 ≤ NX ∧ kg_kd w.1 = (4, a) ∧ k nx ls (.ref w.1 :: st) (kg_new w (fun _ => 0)) (kg_row M w.1 (fun _ => 0))
  | 37 => kg_1i st (fun n r => w.1 < 125 ∧ w.1 + 1 ≤ NX ∧ (kg_kd w.1).1 = a ∧ n = nI (kg_kd w.1).2 ∧ k nx ls (.ref w.1 :: r) (kg_new w (fun _ => 0)) (kg_row M w.1 (fun _ => 0)))
  | 38 => kg_1i st (fun n r => w.1 < 125 ∧ w.1 + 1 ≤ NX ∧ (kg_kd w.1).1 = 3 ∧ n = nI (kg_kd w.1).2 ∧ k nx ls (.ref w.1 :: r) (kg_new w (fun _ => 0)) (kg_row M w.1 (fun _ => 0)))
  | 39 => kg_args b st [] (fun as r => match as with | .ref p :: _ => r.length ≤ 8 ∧ p < w.1 ∧ p < 1000 ∧ kg_kd p = (4, kg_mc a) ∧ call a as w M (kg_kont k nx ls r) | _ => False)
  | 40 => kg_args b st [] (fun as r => r.length ≤ 8 ∧ call a as w M (kg_kont k nx ls r))
  | 41 => kg_args b st [] (fun as r => r.length ≤ 8 ∧ call a as w M (kg_kont k nx ls r))
  | 42 => kg_1r st (fun p r => p < 1000 ∧ r.length ≤ 8 ∧ call a [.ref p] w M (kg_kont k nx ls r))
  | 43 => kg_1r st (fun p r => p < 1000 ∧ r.length ≤ 8 ∧ call a [.ref p] w M (kg_kont k nx ls r))
  | 44 => kg_1r st (fun p r => r.length ≤ 8 ∧ k nx ls r w M)
  | 45 => kg_2i st (fun x y r => r.length ≤ 8 ∧ k nx ls (.int (if y < x then y else x) :: r) w M)
  | 46 => kg_2i st (fun x y r => r.length ≤ 8 ∧ k nx ls (.int (if x < y then y else x) :: r) w M)
  | 47 => (match st with | .int n :: .int z2 :: .ref q :: .int z1 :: .ref p :: r => r.length ≤ 6 ∧ ¬ w.1 < 125 ∧ z1 = nI 0 ∧ z2 = nI 0 ∧ p < w.1 ∧ p < 1000 ∧ q < w.1 ∧ q < 1000 ∧ (kg_kd p).1 = 0 ∧ (kg_kd q).1 = 0 ∧ ∃ j, j < 2 ^ 31 ∧ n = nI j ∧ j ≤ (kg_kd p).2 ∧ j ≤ (kg_kd q).2 ∧ k nx ls r w (kg_cpy M p q j) | _ => False)
  | 48 => (match st with | [.int x] => ret (some (.int x)) w M | _ => False)
  | 49 => (match st with | [] => ret none w M | _ => False)
  | 50 => kg_2i st (fun x y r => k nx ls (.int (x >>> (y &&& 31)) :: r) w M)
  | 51 => kg_2i st (fun x y r => ¬ y = 0 ∧ k nx ls (.int (x / y) :: r) w M)
  | _ => False
/-- a row of numbers fits the bytes and the tables -/
def kg_okb (o : Nat) (ini : Bool) (nL : Nat) (cc : ByteArray) (pc nx t a b c : Nat) (l : List (Nat × Nat)) : Bool := match t with
  | 0 => decide ((nx = pc + 1 ∧ decode cc pc = .ok (.iconst a, 1) ∧ Int32.ofInt a = nI a) ∨ (nx = pc + 2 ∧ decode cc pc = .ok (.bipush a, 2) ∧ (Int8.ofInt a).toInt32 = nI a) ∨ (nx = pc + 3 ∧ decode cc pc = .ok (.sipush a, 3) ∧ (Int16.ofInt a).toInt32 = nI a) ∨ (nx = pc + 2 ∧ decode cc pc = .ok (.ldc c, 2) ∧ (o, c, a) ∈ kg_ctl))
  | 1 => decide ((nx = pc + 1 ∧ decode cc pc = .ok (.iconst (-(a : Int)), 1) ∧ Int32.ofInt (-(a : Int)) = kg_n a) ∨ (nx = pc + 2 ∧ decode cc pc = .ok (.bipush (-(a : Int)), 2) ∧ (Int8.ofInt (-(a : Int))).toInt32 = kg_n a))
  | 2 => decide (a < nL ∧ ((nx = pc + 1 ∧ a < 4 ∧ decode cc pc = .ok (.iload_n (Fin.ofNat 4 a), 1)) ∨ (nx = pc + 2 ∧ decode cc pc = .ok (.iload a, 2))))
  | 3 => decide (a < nL ∧ ((nx = pc + 1 ∧ a < 4 ∧ decode cc pc = .ok (.aload_n (Fin.ofNat 4 a), 1)) ∨ (nx = pc + 2 ∧ decode cc pc = .ok (.aload a, 2))))
  | 4 => decide (a < nL ∧ ((nx = pc + 1 ∧ a < 4 ∧ decode cc pc = .ok (.istore_n (Fin.ofNat 4 a), 1)) ∨ (nx = pc + 2 ∧ decode cc pc = .ok (.istore a, 2))))
  | 5 => decide (a < nL ∧ ((nx = pc + 1 ∧ a < 4 ∧ decode cc pc = .ok (.astore_n (Fin.ofNat 4 a), 1)) ∨ (nx = pc + 2 ∧ decode cc pc = .ok (.astore a, 2))))
  | 6 => decide (a < nL ∧ nx = pc + 3 ∧ decode cc pc = .ok (.iinc a b, 3) ∧ Int32.ofInt b = nI b)
  | 7 => decide (nx = pc + 1 ∧ decode cc pc = .ok (.iadd, 1))
  | 8 => decide (nx = pc + 1 ∧ decode cc pc = .ok (.isub, 1))
  | 9 => decide (nx = pc + 1 ∧ decode cc pc = .ok (.imul, 1))
  | 10 => decide (nx = pc + 1 ∧ decode cc pc = .ok (.irem, 1))
  | 11 => decide (nx = pc + 1 ∧ decode cc pc = .ok (.iand, 1))
  | 12 => decide (nx = pc + 1 ∧ decode cc pc = .ok (.i2c, 1))
  | 13 => decide (nx = pc + 1 ∧ decode cc pc = .ok (.dup, 1))
  | 14 => decide (nx = pc + 1 ∧ decode cc pc = .ok (.dup2, 1))
  | 15 => decide (nx = pc + 1 ∧ decode cc pc = .ok (.pop, 1))
  | 16 => decide (nx = pc + 3 ∧ decode cc pc = .ok (.ifCond (kg_cond a) ((b : Int) - pc), 3))
  | 17 => decide (nx = pc + 3 ∧ decode cc pc = .ok (.if_icmp (kg_cond a) ((b : Int) - pc), 3))
  | 18 => decide (decode cc pc = .ok (.goto ((b : Int) - pc), 3))
  | 19 => decide (l.length < 2 ^ 30 ∧ a < 2 ^ 30 ∧ l.map (fun q => q.1) = (List.range l.length).map (fun i => a + i) ∧ decode cc pc = .ok (.tableswitch ((b : Int) - pc) a ((a : Int) + l.length - 1) (l.map (fun q => (q.2 : Int) - pc)).toArray, c))
  | 20 => decide (l.all (fun q => decide (q.1 < 2 ^ 31)) = true ∧ ((l.map (fun q => ((q.1 : Int), (q.2 : Int) - pc))).toArray.toList.zip ((l.map (fun q => ((q.1 : Int), (q.2 : Int) - pc))).toArray.toList.drop 1)).all (fun (a, next) => a.1 < next.1) = true ∧ decode cc pc = .ok (.lookupswitch ((b : Int) - pc) (l.map (fun q => ((q.1 : Int), (q.2 : Int) - pc))).toArray, c))
  | 21 => decide (nx = pc + 3 ∧ (o, c, a, b) ∈ kg_fll ∧ kg_fr a b = false ∧ decode cc pc = .ok (.getfield c, 3))
  | 22 => decide (nx = pc + 3 ∧ (o, c, a, b) ∈ kg_fll ∧ kg_fr a b = true ∧ decode cc pc = .ok (.getfield c, 3))
  | 23 => decide (nx = pc + 3 ∧ (o, c, a, b) ∈ kg_fll ∧ kg_fr a b = false ∧ kg_ft a b = .int ∧ ((kg_F a b).2.2.2 = false ∨ (ini = true ∧ (kg_F a b).1 = kg_cn o)) ∧ decode cc pc = .ok (.putfield c, 3))
  | 24 => decide (nx = pc + 3 ∧ (o, c, a, b) ∈ kg_fll ∧ kg_fr a b = false ∧ kg_ft a b = .boolean ∧ ((kg_F a b).2.2.2 = false ∨ (ini = true ∧ (kg_F a b).1 = kg_cn o)) ∧ decode cc pc = .ok (.putfield c, 3))
  | 25 => decide (nx = pc + 3 ∧ (o, c, a, b) ∈ kg_fll ∧ kg_fr a b = true ∧ (match kg_ft a b with | .array _ => true | .object _ => true | _ => false) = true ∧ ((kg_F a b).2.2.2 = false ∨ (ini = true ∧ (kg_F a b).1 = kg_cn o)) ∧ decode cc pc = .ok (.putfield c, 3))
  | 26 => decide (nx = pc + 3 ∧ a ∈ [1001, 1002, 1003] ∧ ((o, c, a) ∈ kg_sfl ∨ (o = 4 ∧ c = 56 ∧ a = 1003)) ∧ decode cc pc = .ok (.getstatic c, 3))
  | 27 => decide (nx = pc + 1 ∧ decode cc pc = .ok (.iaload, 1))
  | 28 => decide (nx = pc + 1 ∧ decode cc pc = .ok (.baload, 1))
  | 29 => decide (nx = pc + 1 ∧ decode cc pc = .ok (.caload, 1))
  | 30 => decide (nx = pc + 1 ∧ decode cc pc = .ok (.aaload, 1))
  | 31 => decide (nx = pc + 1 ∧ decode cc pc = .ok (.iastore, 1))
  | 32 => decide (nx = pc + 1 ∧ decode cc pc = .ok (.bastore, 1))
  | 33 => decide (nx = pc + 1 ∧ decode cc pc = .ok (.castore, 1))
  | 34 => decide (nx = pc + 1 ∧ decode cc pc = .ok (.aastore, 1))
  | 35 => decide (nx = pc + 1 ∧ decode cc pc = .ok (.arraylength, 1))
  | 36 => decide (nx = pc + 3 ∧ (o, c, a) ∈ kg_cll ∧ decode cc pc = .ok (.new c, 3))
  | 37 => decide (nx = pc + 2 ∧ ((a = 0 ∧ decode cc pc = .ok (.newarray .int, 2)) ∨ (a = 1 ∧ decode cc pc = .ok (.newarray .boolean, 2)) ∨ (a = 2 ∧ decode cc pc = .ok (.newarray .char, 2))))
  | 38 => decide (nx = pc + 3 ∧ (o, c, 4) ∈ kg_cll ∧ decode cc pc = .ok (.anewarray c, 3))
  | 39 => decide (nx = pc + 3 ∧ a < 96 ∧ (o, c, a, 0, b - 1) ∈ kg_mll ∧ decode cc pc = .ok (.invokevirtual c, 3))
  | 40 => decide (nx = pc + 3 ∧ a < 96 ∧ (o, c, a, 1, b) ∈ kg_mll ∧ decode cc pc = .ok (.invokestatic c, 3))
  | 41 => decide (nx = pc + 3 ∧ a < 96 ∧ (o, c, a, 2, b) ∈ kg_mll ∧ decode cc pc = .ok (.invokestatic c, 3))
  | 42 => decide (nx = pc + 3 ∧ a < 96 ∧ (o, c, a, 3, 0) ∈ kg_mll ∧ decode cc pc = .ok (.invokespecial c, 3))
  | 43 => decide (nx = pc + 3 ∧ a < 96 ∧ (o, c, a, 4, 0) ∈ kg_mll ∧ decode cc pc = .ok (.invokespecial c, 3))
  | 44 => decide (nx = pc + 3 ∧ (o, c) ∈ kg_obl ∧ decode cc pc = .ok (.invokespecial c, 3))
  | 45 => decide (nx = pc + 3 ∧ (o, c) ∈ kg_mnl ∧ decode cc pc = .ok (.invokestatic c, 3))
  | 46 => decide (nx = pc + 3 ∧ (o, c) ∈ kg_mxl ∧ decode cc pc = .ok (.invokestatic c, 3))
  | 47 => decide (nx = pc + 3 ∧ (o, c) ∈ kg_acl ∧ decode cc pc = .ok (.invokestatic c, 3))
  | 48 => decide (decode cc pc = .ok (.ireturn, 1))
  | 49 => decide (decode cc pc = .ok (.return_, 1))
  | 50 => decide (nx = pc + 1 ∧ decode cc pc = .ok (.ishr, 1))
  | 51 => decide (nx = pc + 1 ∧ decode cc pc = .ok (.idiv, 1))
  | _ => false
abbrev kg_Cd : Type := List (Nat × Nat × kg_Op)
def kg_lk : kg_Cd → Nat → Option (Nat × kg_Op)
  | [], _ => none
  | (p, q) :: l, pc => if p = pc then some q else kg_lk l pc
def kg_exo (G : kg_G) (NX : Nat) (call : kg_Ct) (ret : kg_Qt) (o : Option (Nat × kg_Op)) (k : kg_K) (ls : List (Option Value)) (st : List Value) (w : kg_W) (M : kg_M) : Prop := match o with
  | some (nx, t, a, b, c, l) => kg_exs G NX call ret t a b c l nx k ls st w M
  | none => False
/-- so many rows on, then the leaf -/
def kg_run (G : kg_G) (NX : Nat) (call : kg_Ct) (ret : kg_Qt) (cd : kg_Cd) (V : kg_K) : Nat → kg_K
  | 0 => V
  | f + 1 => fun pc ls st w M => kg_exo G NX call ret (kg_lk cd pc) (kg_run G NX call ret cd V f) ls st w M
theorem kg_sw_of {l : List (Nat × Nat)} {d : Nat} {x : Int32} {K : Nat → Prop} (h : kg_sw l d x K) : (∃ (i z t : Nat), l[i]? = some (z, t) ∧ x = nI z ∧ K t) ∨ ((∀ q ∈ l, ¬ x = nI q.1) ∧ K d) := by
  induction l with
  | nil => exact Or.inr ⟨fun q hq => (by cases hq), h⟩
  | cons q l ih =>
    obtain ⟨z, t⟩ := q
    obtain ⟨h1, h2⟩ := h
    by_cases hx : x = nI z
    · exact Or.inl ⟨0, z, t, rfl, hx, h1 hx⟩
    · rcases ih (h2 hx) with ⟨i, z', t', a1, a2, a3⟩ | ⟨a1, a2⟩
      · exact Or.inl ⟨i + 1, z', t', by simpa using a1, a2, a3⟩
      · refine Or.inr ⟨fun q hq => ?_, a2⟩
        rcases List.mem_cons.mp hq with rfl | hq
        · exact hx
        · exact a1 q hq
theorem kg_args_of {K : List Value → List Value → Prop} : ∀ {n : Nat} {st acc : List Value}, kg_args n st acc K → ∃ u r, u.length = n ∧ st = u ++ r ∧ K (u.reverse ++ acc) r
  | 0, st, acc, h => ⟨[], st, rfl, rfl, h⟩
  | n + 1, [], acc, h => False.elim h
  | n + 1, v :: st, acc, h => by
    obtain ⟨u, r, h1, h2, h3⟩ := kg_args_of (n := n) h
    exact ⟨v :: u, r, by simp [h1], by simp [h2], by simpa using h3⟩
theorem kg_toInt_nI {x : Int32} {z : Nat} (hz : z < 2 ^ 31) : x = nI z ↔ (z : Int) = x.toInt := by
  constructor
  · rintro rfl
    exact (nI_toInt hz).symm
  · intro h
    rw [← Int32.toInt_inj, nI_toInt hz]
    exact h.symm
theorem kg_sw_look {pc d : Nat} {x : Int32} {K : Nat → Prop} : ∀ {l : List (Nat × Nat)}, (∀ q ∈ l, q.1 < 2 ^ 31) → kg_sw l d x K → ∃ t : Nat, K t ∧ Op.lookupswitch.offset (l.map (fun q => ((q.1 : Int), (q.2 : Int) - pc))) ((d : Int) - pc) x.toInt = (t : Int) - pc
  | [], _, h => ⟨d, h, rfl⟩
  | (z, t) :: l, hl, ⟨h1, h2⟩ => by
    have hz := hl (z, t) List.mem_cons_self
    simp only [List.map_cons, Op.lookupswitch.offset_cons]
    by_cases hx : x = nI z
    · exact ⟨t, h1 hx, by rw [if_pos ((kg_toInt_nI hz).mp hx)]⟩
    · obtain ⟨t', a1, a2⟩ := kg_sw_look (pc := pc) (fun q hq => hl q (List.mem_cons_of_mem _ hq)) (h2 hx)
      exact ⟨t', a1, by rw [if_neg (fun e => hx ((kg_toInt_nI hz).mpr e))]; exact a2⟩
theorem kg_sw_tab {pc d a : Nat} {x : Int32} {K : Nat → Prop} {l : List (Nat × Nat)} (h1 : l.length < 2 ^ 30) (h2 : a < 2 ^ 30) (h3 : l.map (fun q => q.1) = (List.range l.length).map (fun i => a + i)) (h : kg_sw l d x K) :
    (∃ t : Nat, K t ∧ ¬ x.toInt < a ∧ ¬ (a : Int) + l.length - 1 < x.toInt ∧ (l.map (fun q => (q.2 : Int) - pc)).toArray[(x.toInt - a).toNat]? = some ((t : Int) - pc)) ∨ ((x.toInt < a ∨ (a : Int) + l.length - 1 < x.toInt) ∧ K d) := by
  have key : ∀ (i z t : Nat), l[i]? = some (z, t) → i < l.length ∧ z = a + i := by
    intro i z t hi
    have hl := (List.getElem?_eq_some_iff.mp hi).1
    have e : (l.map (fun q => q.1))[i]? = some z := by rw [List.getElem?_map, hi]; rfl
    rw [h3, List.getElem?_map, List.getElem?_range hl] at e
    exact ⟨hl, (Option.some.inj e).symm⟩
  rcases kg_sw_of h with ⟨i, z, t, a1, a2, a3⟩ | ⟨a1, a2⟩
  · obtain ⟨hl, rfl⟩ := key i z t a1
    have hx : x.toInt = ((a + i : Nat) : Int) := ((kg_toInt_nI (by omega)).mp a2).symm
    refine Or.inl ⟨t, a3, by omega, by omega, ?_⟩
    rw [show (x.toInt - a).toNat = i by omega, List.getElem?_toArray, List.getElem?_map, a1]
    rfl
  · refine Or.inr ⟨?_, a2⟩
    by_cases g : x.toInt < a
    · exact Or.inl g
    · right
      by_cases g2 : (a : Int) + l.length - 1 < x.toInt
      · exact g2
      · exfalso
        have hi : (x.toInt - a).toNat < l.length := by omega
        obtain ⟨⟨z, t⟩, e⟩ : ∃ q : Nat × Nat, l[(x.toInt - a).toNat]? = some q := ⟨_, List.getElem?_eq_getElem hi⟩
        obtain ⟨-, hz⟩ := key _ z t e
        refine a1 (z, t) (List.mem_of_getElem? e) ((kg_toInt_nI (by omega)).mpr ?_)
        show (z : Int) = x.toInt
        omega
section
variable {G : kg_G} {X : kg_Xt} {o : Nat} {cc : ByteArray} {nL d : Nat} {ini : Bool} {N0 NX : Nat} {pc : Nat} {ls : List (Option Value)} {st : List Value} {w : kg_W} {M : kg_M}
theorem kg_r_tsw (hB : kg_B G X (kg_cn o) cc nL d ini N0 NX) {x : Int32} {a b c : Nat} {l : List (Nat × Nat)} (h1 : l.length < 2 ^ 30) (h2 : a < 2 ^ 30) (h3 : l.map (fun q => q.1) = (List.range l.length).map (fun i => a + i)) (hd : decode cc pc = .ok (.tableswitch ((b : Int) - pc) a ((a : Int) + l.length - 1) (l.map (fun q => (q.2 : Int) - pc)).toArray, c)) (h : kg_sw l b x (fun t => kg_V G X nL N0 NX t ls st w M)) : kg_V G X nL N0 NX pc ls (.int x :: st) w M := by
  intro g1 g2 p' e R s m args below meth c' Qf hX H locs A hH hS hl
  obtain ⟨hx, hb, -⟩ := hB _ _ _ _ _ _ _ _ _ _ hX
  rcases kg_sw_tab (pc := pc) h1 h2 h3 h with ⟨t, k, a1, a2, a3⟩ | ⟨a1, k⟩
  · exact lv_tableIn hx hb hd a1 a2 a3 (by omega) (k g1 g2 p' e R s m args below meth c' Qf hX H locs A hH hS hl)
  · exact lv_tableOut hx hb hd a1 (by omega) (k g1 g2 p' e R s m args below meth c' Qf hX H locs A hH hS hl)
theorem kg_r_lsw (hB : kg_B G X (kg_cn o) cc nL d ini N0 NX) {x : Int32} {b c : Nat} {l : List (Nat × Nat)} (h1 : ∀ q ∈ l, q.1 < 2 ^ 31) (h2 : ((l.map (fun q => ((q.1 : Int), (q.2 : Int) - pc))).toArray.toList.zip ((l.map (fun q => ((q.1 : Int), (q.2 : Int) - pc))).toArray.toList.drop 1)).all (fun (a, next) => a.1 < next.1) = true) (hd : decode cc pc = .ok (.lookupswitch ((b : Int) - pc) (l.map (fun q => ((q.1 : Int), (q.2 : Int) - pc))).toArray, c)) (h : kg_sw l b x (fun t => kg_V G X nL N0 NX t ls st w M)) : kg_V G X nL N0 NX pc ls (.int x :: st) w M := by
  intro g1 g2 p' e R s m args below meth c' Qf hX H locs A hH hS hl
  obtain ⟨hx, hb, -⟩ := hB _ _ _ _ _ _ _ _ _ _ hX
  obtain ⟨t, k, ho⟩ := kg_sw_look (pc := pc) h1 h
  exact lv_lookup hx hb hd h2 ho (by omega) (k g1 g2 p' e R s m args below meth c' Qf hX H locs A hH hS hl)
end
end
section
/-! SOUNDNESS of one row, and of a run -/
theorem kg_ca {G : kg_G} {w : kg_W} {M : kg_M} {n : Nat} {i : Int32} {K : Nat → Prop} (h : kg_at n i K) : ∃ j, j < n ∧ i = nI j ∧ K j := h
theorem kg_kdn (p : Nat) : (kg_kd p).2 < 2 ^ 31 := by
  have hs : ∀ r, (kg_sb r).2 < 2 ^ 31 := by
    intro r
    unfold kg_sb
    split <;> decide
  unfold kg_kd
  split
  · decide
  · split
    · exact hs _
    · split
      · decide
      · split
        · exact hs _
        · split <;> decide
theorem kg_kd_eta {p t : Nat} (h : (kg_kd p).1 = t) : kg_kd p = (t, (kg_kd p).2) := by rw [← h]
theorem kg_fll_of {o c a b : Nat} (h : (o, c, a, b) ∈ kg_fll) : a < 6 ∧ b < kg_nf a ∧ Cond.fieldLink (kg_cn o) c (kg_F a b).1 (kg_F a b).2.1 (kg_F a b).2.2.1 ∈ kg_T := by
  obtain ⟨⟨o8, i8, m8, k8, p1⟩, h8, e8⟩ := List.mem_map.mp h
  simp only [Prod.mk.injEq] at e8
  obtain ⟨rfl, rfl, rfl, rfl⟩ := e8
  have ok := List.all_eq_true.mp kg_fl5_ok _ h8
  simp only [kg_flo, Bool.and_eq_true, decide_eq_true_eq] at ok
  exact ⟨ok.1.1, ok.1.2, kg_wp_of ok.2⟩
theorem kg_cll_of {o c a : Nat} (h : (o, c, a) ∈ kg_cll) : a < 6 ∧ Cond.classLink (kg_cn o) c (kg_C a) ∈ kg_T ∧ Cond.instantiable (kg_C a) (kg_nf a) ∈ kg_T ∧ Cond.initialized (kg_C a) ∈ kg_T ∧ ∀ k, k < kg_nf a → defaultValue (kg_ft a k) = if kg_fr a k = true then .null else .int 0 := by
  have ok := List.all_eq_true.mp kg_cll_ok _ h
  simp only [Bool.and_eq_true, decide_eq_true_eq] at ok
  refine ⟨ok.1.1.1.1, kg_w1_of ok.1.1.1.2, kg_w1_of ok.1.1.2, kg_w1_of ok.1.2, fun k hk => ?_⟩
  have := List.all_eq_true.mp ok.2 k (List.mem_range.mpr hk)
  simpa using this
section
variable {G : kg_G} {X : kg_Xt} {o : Nat} {cc : ByteArray} {nL d : Nat} {ini : Bool} {N0 NX : Nat}
set_option maxHeartbeats 4000000 in
set_option maxRecDepth 10000 in
theorem kg_step (hB : kg_B G X (kg_cn o) cc nL d ini N0 NX) (hd1 : 1 ≤ d) (hL : G.2.2.2.2.2.1 < 2 ^ 31) {ret : kg_Qt}
    (hri : ∀ pc ls x w M, decode cc pc = .ok (.ireturn, 1) → ret (some (.int x)) w M → kg_V G X nL N0 NX pc ls [.int x] w M)
    (hrv : ∀ pc ls w M, decode cc pc = .ok (.return_, 1) → ret none w M → kg_V G X nL N0 NX pc ls [] w M)
    {k : kg_K} (hk : ∀ pc ls st w M, k pc ls st w M → kg_V G X nL N0 NX pc ls st w M)
    {pc nx t a b c : Nat} {l : List (Nat × Nat)} {ls : List (Option Value)} {st : List Value} {w : kg_W} {M : kg_M}
    (hok : kg_okb o ini nL cc pc nx t a b c l = true) (hex : kg_exs G NX (kg_call G d NX) ret t a b c l nx k ls st w M) : kg_V G X nL N0 NX pc ls st w M := by
  have kont : ∀ (nx : Nat) (r : List Value) (v : Option Value) (w' : kg_W) (M' : kg_M), nx = pc + 3 → kg_kont k nx ls r v w' M' → kg_V G X nL N0 NX (pc + 3) ls (v.toList ++ r) w' M' := fun nx r v w' M' e h => by subst e; exact hk _ _ _ _ _ h
  match t, hok, hex with
  | 0, hok, hex =>
    have h := of_decide_eq_true hok
    rcases h with ⟨h1, h2, h3⟩ | ⟨h1, h2, h3⟩ | ⟨h1, h2, h3⟩ | ⟨h1, h2, h3⟩
    · exact kg_r_const hB (Or.inl ⟨h1, h2, h3⟩) (hk _ _ _ _ _ hex)
    · exact kg_r_const hB (Or.inr (Or.inl ⟨h1, h2, h3⟩)) (hk _ _ _ _ _ hex)
    · exact kg_r_const hB (Or.inr (Or.inr ⟨h1, h2, h3⟩)) (hk _ _ _ _ _ hex)
    · subst h1
      exact kg_r_ldc hB h2 (kg_w1_of (List.all_eq_true.mp kg_ctl_ok _ h3)) (hk _ _ _ _ _ hex)
  | 1, hok, hex =>
    have h := of_decide_eq_true hok
    rcases h with ⟨h1, h2, h3⟩ | ⟨h1, h2, h3⟩
    · exact kg_r_const hB (Or.inl ⟨h1, h2, h3⟩) (hk _ _ _ _ _ hex)
    · exact kg_r_const hB (Or.inr (Or.inl ⟨h1, h2, h3⟩)) (hk _ _ _ _ _ hex)
  | 2, hok, hex =>
    obtain ⟨ha, h⟩ := of_decide_eq_true hok
    match hv : kg_lg ls a, (show kg_vi (kg_lg ls a) _ from hex) with
    | some (.int x), hex =>
      refine kg_r_iload hB ha ?_ hv (hk _ _ _ _ _ hex)
      rcases h with ⟨h1, h2, h3⟩ | ⟨h1, h2⟩
      · exact Or.inl ⟨h1, _, by simp [Fin.ofNat, Nat.mod_eq_of_lt h2], h3⟩
      · exact Or.inr ⟨h1, h2⟩
  | 3, hok, hex =>
    obtain ⟨ha, h⟩ := of_decide_eq_true hok
    match hv : kg_lg ls a, (show kg_vr (kg_lg ls a) _ from hex) with
    | some (.ref x), hex =>
      refine kg_r_aload hB ha ?_ hv (hk _ _ _ _ _ hex)
      rcases h with ⟨h1, h2, h3⟩ | ⟨h1, h2⟩
      · exact Or.inl ⟨h1, _, by simp [Fin.ofNat, Nat.mod_eq_of_lt h2], h3⟩
      · exact Or.inr ⟨h1, h2⟩
  | 4, hok, hex =>
    obtain ⟨ha, h⟩ := of_decide_eq_true hok
    match st, (show kg_1i st _ from hex) with
    | .int x :: r, hex =>
      refine kg_r_istore hB ha ?_ (hk _ _ _ _ _ hex)
      rcases h with ⟨h1, h2, h3⟩ | ⟨h1, h2⟩
      · exact Or.inl ⟨h1, _, by simp [Fin.ofNat, Nat.mod_eq_of_lt h2], h3⟩
      · exact Or.inr ⟨h1, h2⟩
  | 5, hok, hex =>
    obtain ⟨ha, h⟩ := of_decide_eq_true hok
    match st, (show kg_1r st _ from hex) with
    | .ref x :: r, hex =>
      refine kg_r_astore hB ha ?_ (hk _ _ _ _ _ hex)
      rcases h with ⟨h1, h2, h3⟩ | ⟨h1, h2⟩
      · exact Or.inl ⟨h1, _, by simp [Fin.ofNat, Nat.mod_eq_of_lt h2], h3⟩
      · exact Or.inr ⟨h1, h2⟩
  | 6, hok, hex =>
    obtain ⟨ha, h1, h2, h3⟩ := of_decide_eq_true hok
    subst h1
    match hv : kg_lg ls a, (show kg_vi (kg_lg ls a) _ from hex) with
    | some (.int x), hex =>
      exact kg_r_iinc hB ha h2 hv h3 (hk _ _ _ _ _ hex)
  | 7, hok, hex =>
    obtain ⟨h1, h2⟩ := of_decide_eq_true hok
    subst h1
    match st, (show kg_2i st _ from hex) with
    | .int y :: .int x :: r, hex => exact kg_r_iadd hB h2 (hk _ _ _ _ _ hex)
  | 8, hok, hex =>
    obtain ⟨h1, h2⟩ := of_decide_eq_true hok
    subst h1
    match st, (show kg_2i st _ from hex) with
    | .int y :: .int x :: r, hex => exact kg_r_isub hB h2 (hk _ _ _ _ _ hex)
  | 9, hok, hex =>
    obtain ⟨h1, h2⟩ := of_decide_eq_true hok
    subst h1
    match st, (show kg_2i st _ from hex) with
    | .int y :: .int x :: r, hex => exact kg_r_imul hB h2 (hk _ _ _ _ _ hex)
  | 10, hok, hex =>
    obtain ⟨h1, h2⟩ := of_decide_eq_true hok
    subst h1
    match st, (show kg_2i st _ from hex) with
    | .int y :: .int x :: r, hex => exact kg_r_irem hB h2 hex.1 (hk _ _ _ _ _ hex.2)
  | 11, hok, hex =>
    obtain ⟨h1, h2⟩ := of_decide_eq_true hok
    subst h1
    match st, (show kg_2i st _ from hex) with
    | .int y :: .int x :: r, hex => exact kg_r_iand hB h2 (hk _ _ _ _ _ hex)
  | 12, hok, hex =>
    obtain ⟨h1, h2⟩ := of_decide_eq_true hok
    subst h1
    match st, (show kg_1i st _ from hex) with
    | .int x :: r, hex => exact kg_r_i2c hB h2 (hk _ _ _ _ _ hex)
  | 13, hok, hex =>
    obtain ⟨h1, h2⟩ := of_decide_eq_true hok
    subst h1
    match st, hex with
    | v :: r, hex => exact kg_r_dup hB h2 (hk _ _ _ _ _ hex)
  | 14, hok, hex =>
    obtain ⟨h1, h2⟩ := of_decide_eq_true hok
    subst h1
    match st, hex with
    | v :: u :: r, hex => exact kg_r_dup2 hB h2 (hk _ _ _ _ _ hex)
  | 15, hok, hex =>
    obtain ⟨h1, h2⟩ := of_decide_eq_true hok
    subst h1
    match st, hex with
    | v :: r, hex => exact kg_r_pop hB h2 (hk _ _ _ _ _ hex)
  | 16, hok, hex =>
    obtain ⟨h1, h2⟩ := of_decide_eq_true hok
    subst h1
    match st, (show kg_1i st _ from hex) with
    | .int x :: r, hex =>
      exact kg_r_if hB h2 (by omega) (fun h => hk _ _ _ _ _ (hex.1 h)) (fun h => hk _ _ _ _ _ (hex.2 h))
  | 17, hok, hex =>
    obtain ⟨h1, h2⟩ := of_decide_eq_true hok
    subst h1
    match st, (show kg_2i st _ from hex) with
    | .int y :: .int x :: r, hex =>
      exact kg_r_icmp hB h2 (by omega) (fun h => hk _ _ _ _ _ (hex.1 h)) (fun h => hk _ _ _ _ _ (hex.2 h))
  | 18, hok, hex =>
    have h2 := of_decide_eq_true hok
    exact kg_r_goto hB h2 (by omega) (hk _ _ _ _ _ hex)
  | 19, hok, hex =>
    obtain ⟨h1, h2, h3, h4⟩ := of_decide_eq_true hok
    match st, (show kg_1i st _ from hex) with
    | .int x :: r, hex =>
      refine kg_r_tsw hB h1 h2 h3 h4 ?_
      have : ∀ {l : List (Nat × Nat)}, kg_sw l b x (fun t => k t ls r w M) → kg_sw l b x (fun t => kg_V G X nL N0 NX t ls r w M) := by
        intro l
        induction l with
        | nil => exact fun h => hk _ _ _ _ _ h
        | cons q l ih => exact fun h => ⟨fun e => hk _ _ _ _ _ (h.1 e), fun e => ih (h.2 e)⟩
      exact this hex
  | 20, hok, hex =>
    obtain ⟨h1, h2, h3⟩ := of_decide_eq_true hok
    match st, (show kg_1i st _ from hex) with
    | .int x :: r, hex =>
      refine kg_r_lsw hB (fun q hq => by simpa using List.all_eq_true.mp h1 q hq) h2 h3 ?_
      have : ∀ {l : List (Nat × Nat)}, kg_sw l b x (fun t => k t ls r w M) → kg_sw l b x (fun t => kg_V G X nL N0 NX t ls r w M) := by
        intro l
        induction l with
        | nil => exact fun h => hk _ _ _ _ _ h
        | cons q l ih => exact fun h => ⟨fun e => hk _ _ _ _ _ (h.1 e), fun e => ih (h.2 e)⟩
      exact this hex
  | 21, hok, hex =>
    obtain ⟨h1, h2, h3, h4⟩ := of_decide_eq_true hok
    subst h1
    have hf := kg_fll_of h2
    match st, (show kg_1r st _ from hex) with
    | .ref p :: r, ⟨g1, g2, g3, g4⟩ => exact kg_r_geti hB g2 g1 hf.1 hf.2.1 g3 h3 hf.2.2 h4 (hk _ _ _ _ _ g4)
  | 22, hok, hex =>
    obtain ⟨h1, h2, h3, h4⟩ := of_decide_eq_true hok
    subst h1
    have hf := kg_fll_of h2
    match st, (show kg_1r st _ from hex) with
    | .ref p :: r, ⟨g1, g2, g3, g4, g5, g6⟩ => exact kg_r_getr hB g2 g1 hf.1 hf.2.1 g3 h3 hf.2.2 rfl g4 g5 h4 (hk _ _ _ _ _ g6)
  | 23, hok, hex =>
    obtain ⟨h1, h2, h3, h5, h6, h4⟩ := of_decide_eq_true hok
    subst h1
    have hf := kg_fll_of h2
    match st, hex with
    | .int x :: .ref p :: r, ⟨g1, g2, g3, g4⟩ => exact kg_r_puti hB g2 g1 hf.1 hf.2.1 g3 h3 hf.2.2 h6 h4 (Or.inl h5) (hk _ _ _ _ _ g4)
  | 24, hok, hex =>
    obtain ⟨h1, h2, h3, h5, h6, h4⟩ := of_decide_eq_true hok
    subst h1
    have hf := kg_fll_of h2
    match st, hex with
    | .int x :: .ref p :: r, ⟨g1, g2, g3, g4, g5⟩ => exact kg_r_puti hB g2 g1 hf.1 hf.2.1 g3 h3 hf.2.2 h6 h4 (Or.inr ⟨h5, g4⟩) (hk _ _ _ _ _ g5)
  | 25, hok, hex =>
    obtain ⟨h1, h2, h3, h5, h6, h4⟩ := of_decide_eq_true hok
    subst h1
    have hf := kg_fll_of h2
    match st, hex with
    | .ref q :: .ref p :: r, ⟨g1, g2, g3, g4, g6, g5⟩ =>
      refine kg_r_putr hB g2 g1 hf.1 hf.2.1 g3 h3 hf.2.2 h6 g4 g6 h4 ?_ (hk _ _ _ _ _ g5)
      cases hft : kg_ft a b with
      | array t => exact Or.inl ⟨t, rfl⟩
      | object t => exact Or.inr ⟨t, rfl⟩
      | _ => rw [hft] at h5; cases h5
  | 26, hok, hex =>
    obtain ⟨h1, h2, h3, h4⟩ := of_decide_eq_true hok
    subst h1
    refine kg_r_gets hB h2 ?_ h4 (hk _ _ _ _ _ hex)
    rcases h3 with h3 | ⟨rfl, rfl, rfl⟩
    · have ok := List.all_eq_true.mp kg_sfl_ok _ h3
      simp only [Bool.and_eq_true] at ok
      exact Or.inl (kg_w1_of ok.2)
    · exact Or.inr ⟨rfl, rfl, rfl⟩
  | 27, hok, hex =>
    obtain ⟨h1, h2⟩ := of_decide_eq_true hok
    subst h1
    match st, (show kg_ir st _ from hex) with
    | .int i :: .ref p :: r, ⟨g1, g2, g3⟩ =>
      rcases Nat.lt_trichotomy p 1000 with hp | hp | hp
      · obtain ⟨e1, e2, j, e3, rfl, e4⟩ := g3 hp
        exact kg_r_iald hB hp e1 (kg_kd_eta e2) e3 (kg_kdn p) h2 (hk _ _ _ _ _ e4)
      · obtain ⟨j, e3, rfl, e4⟩ := g1 hp
        subst hp
        exact kg_r_ildx hB e3 hL h2 (hk _ _ _ _ _ e4)
      · obtain ⟨e1, j, e3, rfl, e4⟩ := g2 hp
        exact kg_r_ilds hB (by simp; omega) e3 h2 (hk _ _ _ _ _ e4)
  | 28, hok, hex =>
    obtain ⟨h1, h2⟩ := of_decide_eq_true hok
    subst h1
    match st, (show kg_ir st _ from hex) with
    | .int i :: .ref p :: r, hex =>
      obtain ⟨g1, g2, g3, j, e3, rfl, e4⟩ := hex
      exact kg_r_zald hB g2 g1 (kg_kd_eta g3) e3 (kg_kdn p) h2 (hk _ _ _ _ _ e4)
  | 29, hok, hex =>
    obtain ⟨h1, h2⟩ := of_decide_eq_true hok
    subst h1
    match st, (show kg_ir st _ from hex) with
    | .int i :: .ref p :: r, hex =>
      obtain ⟨g1, g2, g3, j, e3, rfl, e4⟩ := hex
      exact kg_r_cald hB g2 g1 (kg_kd_eta g3) e3 (kg_kdn p) h2 (hk _ _ _ _ _ e4)
  | 30, hok, hex =>
    obtain ⟨h1, h2⟩ := of_decide_eq_true hok
    subst h1
    match st, (show kg_ir st _ from hex) with
    | .int i :: .ref p :: r, hex =>
      obtain ⟨g1, g2, g3, j, e3, rfl, e4, e5, e6⟩ := hex
      exact kg_r_aald hB g2 g1 (kg_kd_eta g3) e3 (kg_kdn p) rfl e4 e5 h2 (hk _ _ _ _ _ e6)
  | 31, hok, hex =>
    obtain ⟨h1, h2⟩ := of_decide_eq_true hok
    subst h1
    match st, (show kg_iir st _ from hex) with
    | .int x :: .int i :: .ref p :: r, hex =>
      obtain ⟨g1, g2, g3, j, e3, rfl, e4⟩ := hex
      exact kg_r_iast hB g2 g1 (kg_kd_eta g3) e3 (kg_kdn p) h2 (hk _ _ _ _ _ e4)
  | 32, hok, hex =>
    obtain ⟨h1, h2⟩ := of_decide_eq_true hok
    subst h1
    match st, (show kg_iir st _ from hex) with
    | .int x :: .int i :: .ref p :: r, hex =>
      obtain ⟨g1, g2, g3, g4, j, e3, rfl, e4⟩ := hex
      exact kg_r_zast hB g2 g1 (kg_kd_eta g3) e3 (kg_kdn p) g4 h2 (hk _ _ _ _ _ e4)
  | 33, hok, hex =>
    obtain ⟨h1, h2⟩ := of_decide_eq_true hok
    subst h1
    match st, (show kg_iir st _ from hex) with
    | .int x :: .int i :: .ref p :: r, hex =>
      obtain ⟨g1, g2, g3, z, e1, rfl, j, e3, rfl, e4⟩ := hex
      exact kg_r_cast hB g2 g1 (kg_kd_eta g3) e3 (kg_kdn p) e1 h2 (hk _ _ _ _ _ e4)
  | 34, hok, hex =>
    obtain ⟨h1, h2⟩ := of_decide_eq_true hok
    subst h1
    match st, hex with
    | .ref q :: .int i :: .ref p :: r, hex =>
      obtain ⟨g1, g2, g3, g4, g5, g6, g7, j, e3, rfl, e4⟩ := hex
      exact kg_r_aast hB g2 g1 (kg_kd_eta g3) e3 (kg_kdn p) g4 g5 g6 g7 h2 (hk _ _ _ _ _ e4)
  | 35, hok, hex =>
    obtain ⟨h1, h2⟩ := of_decide_eq_true hok
    subst h1
    match st, hex with
    | .ref p :: r, hex =>
      obtain ⟨rfl, e4⟩ := hex
      exact kg_r_slen hB h2 (hk _ _ _ _ _ e4)
  | 36, hok, hex =>
    obtain ⟨h1, h2, h3⟩ := of_decide_eq_true hok
    subst h1
    have hc := kg_cll_of h2
    obtain ⟨g1, g2, g3, g4⟩ := hex
    exact kg_r_new hB g1 g2 hc.1 g3 hc.2.1 hc.2.2.1 hc.2.2.2.1 hc.2.2.2.2 h3 (hk _ _ _ _ _ g4)
  | 37, hok, hex =>
    obtain ⟨h1, h2⟩ := of_decide_eq_true hok
    subst h1
    match st, (show kg_1i st _ from hex) with
    | .int n :: r, hex =>
      obtain ⟨g1, g2, g3, rfl, g4⟩ := hex
      have hz : (kg_kd w.1).2 < 2 ^ 20 := by
        have : ∀ p, p < 125 → (kg_kd p).2 < 2 ^ 20 := by decide +kernel
        exact this _ g1
      rcases h2 with ⟨rfl, h2⟩ | ⟨rfl, h2⟩ | ⟨rfl, h2⟩
      · exact kg_r_newa hB g1 g2 (kg_kd_eta g3) (by omega) (aty := .int) (ty := .int) rfl rfl (fun _ _ h => h) rfl hz (by decide) kg_k_arr.1 h2 (hk _ _ _ _ _ g4)
      · exact kg_r_newa hB g1 g2 (kg_kd_eta g3) (by omega) (aty := .boolean) (ty := .boolean) rfl rfl (fun _ _ h => h) rfl hz (by decide) kg_k_arr.2.1 h2 (hk _ _ _ _ _ g4)
      · exact kg_r_newa hB g1 g2 (kg_kd_eta g3) (by omega) (aty := .char) (ty := .char) rfl rfl (fun _ _ h => h) rfl hz (by decide) kg_k_arr.2.2 h2 (hk _ _ _ _ _ g4)
  | 38, hok, hex =>
    obtain ⟨h1, h2, h3⟩ := of_decide_eq_true hok
    subst h1
    have hc := kg_cll_of h2
    match st, (show kg_1i st _ from hex) with
    | .int n :: r, hex =>
      obtain ⟨g1, g2, g3, rfl, g4⟩ := hex
      have hz : (kg_kd w.1).2 < 2 ^ 20 := by
        have : ∀ p, p < 125 → (kg_kd p).2 < 2 ^ 20 := by decide +kernel
        exact this _ g1
      exact kg_r_anew hB g1 g2 (kg_kd_eta g3) hz hc.2.1 h3 (hk _ _ _ _ _ g4)
  | 39, hok, hex =>
    obtain ⟨h1, h2, h3, h4⟩ := of_decide_eq_true hok
    obtain ⟨u, r, e1, rfl, e3⟩ := kg_args_of (show kg_args b st [] _ from hex)
    rw [List.append_nil] at e3
    match hu : u.reverse, e3 with
    | .ref p :: as, ⟨g1, g2, g3, g4, g5⟩ =>
      have hu2 : u = as.reverse ++ [.ref p] := by
        have := congrArg List.reverse hu
        simpa using this
      have hlen : as.length = b - 1 := by
        rw [hu2] at e1
        simp at e1
        omega
      rw [hu2, List.append_assoc]
      exact kg_c_virt hB rfl h2 h3 hlen g3 g2 g4 g1 h4 g5 (fun v w' M' h => kont nx r v w' M' h1 h)
  | 40, hok, hex =>
    obtain ⟨h1, h2, h3, h4⟩ := of_decide_eq_true hok
    obtain ⟨u, r, e1, rfl, g1, g2⟩ := kg_args_of (show kg_args b st [] _ from hex)
    rw [List.append_nil] at g2
    have h9 := kg_c_stat (as := u.reverse) hB rfl h2 h3 (by simpa using e1) g1 h4 g2 (fun v w' M' h => kont nx r v w' M' h1 h)
    rw [List.reverse_reverse] at h9
    exact h9
  | 41, hok, hex =>
    obtain ⟨h1, h2, h3, h4⟩ := of_decide_eq_true hok
    obtain ⟨u, r, e1, rfl, g1, g2⟩ := kg_args_of (show kg_args b st [] _ from hex)
    rw [List.append_nil] at g2
    have h9 := kg_c_statN (as := u.reverse) hB rfl h2 h3 (by simpa using e1) g1 h4 g2 (fun v w' M' h => kont nx r v w' M' h1 h)
    rw [List.reverse_reverse] at h9
    exact h9
  | 42, hok, hex =>
    obtain ⟨h1, h2, h3, h4⟩ := of_decide_eq_true hok
    match st, (show kg_1r st _ from hex) with
    | .ref p :: r, ⟨g1, g2, g3⟩ => exact kg_c_init hB rfl h2 h3 g1 g2 h4 g3 (fun v w' M' h => kont nx r v w' M' h1 h)
  | 43, hok, hex =>
    obtain ⟨h1, h2, h3, h4⟩ := of_decide_eq_true hok
    match st, (show kg_1r st _ from hex) with
    | .ref p :: r, ⟨g1, g2, g3⟩ => exact kg_c_initN hB rfl h2 h3 g1 g2 h4 g3 (fun v w' M' h => kont nx r v w' M' h1 h)
  | 44, hok, hex =>
    obtain ⟨h1, h2, h3⟩ := of_decide_eq_true hok
    subst h1
    match st, (show kg_1r st _ from hex) with
    | .ref p :: r, ⟨g1, g2⟩ => exact kg_r_obj hB hd1 g1 (kg_w1_of (List.all_eq_true.mp kg_obl_ok _ h2)) kg_k_obj kg_k_objc h3 (hk _ _ _ _ _ g2)
  | 45, hok, hex =>
    obtain ⟨h1, h2, h3⟩ := of_decide_eq_true hok
    subst h1
    match st, (show kg_2i st _ from hex) with
    | .int y :: .int x :: r, ⟨g1, g2⟩ => exact kg_r_mmin hB hd1 g1 (kg_w1_of (List.all_eq_true.mp kg_mnl_ok _ h2)) kg_k_mins kg_k_mi kg_k_min h3 (hk _ _ _ _ _ g2)
  | 46, hok, hex =>
    obtain ⟨h1, h2, h3⟩ := of_decide_eq_true hok
    subst h1
    match st, (show kg_2i st _ from hex) with
    | .int y :: .int x :: r, ⟨g1, g2⟩ => exact kg_r_mmax hB hd1 g1 (kg_w1_of (List.all_eq_true.mp kg_mxl_ok _ h2)) kg_k_maxs kg_k_mi kg_k_max h3 (hk _ _ _ _ _ g2)
  | 47, hok, hex =>
    obtain ⟨h1, h2, h3⟩ := of_decide_eq_true hok
    subst h1
    match st, hex with
    | .int n :: .int z2 :: .ref q :: .int z1 :: .ref p :: r, hex =>
      obtain ⟨g1, g2, rfl, rfl, g3, g4, g5, g6, g7, g8, j, g9, rfl, g10, g11, g12⟩ := hex
      exact kg_r_copy hB g2 hd1 g1 (kg_w1_of (List.all_eq_true.mp kg_acl_ok _ h2)) kg_k_ac.1 kg_k_ac.2.1 kg_k_ac.2.2 g4 g3 (kg_kd_eta g7) g6 g5 (kg_kd_eta g8) g10 g11 g9 h3 (hk _ _ _ _ _ g12)
  | 48, hok, hex =>
    have h2 := of_decide_eq_true hok
    match st, hex with
    | [.int x], hex => exact hri _ _ _ _ _ h2 hex
  | 49, hok, hex =>
    have h2 := of_decide_eq_true hok
    match st, hex with
    | [], hex => exact hrv _ _ _ _ h2 hex
  | 50, hok, hex =>
    obtain ⟨h1, h2⟩ := of_decide_eq_true hok
    subst h1
    match st, (show kg_2i st _ from hex) with
    | .int y :: .int x :: r, hex => exact kg_r_ishr hB h2 (hk _ _ _ _ _ hex)
  | 51, hok, hex =>
    obtain ⟨h1, h2⟩ := of_decide_eq_true hok
    subst h1
    match st, (show kg_2i st _ from hex) with
    | .int y :: .int x :: r, hex => exact kg_r_idiv hB h2 hex.1 (hk _ _ _ _ _ hex.2)
def kg_okc (o : Nat) (ini : Bool) (nL : Nat) (cc : ByteArray) (cd : kg_Cd) : Bool := cd.all (fun q => kg_okb o ini nL cc q.1 q.2.1 q.2.2.1 q.2.2.2.1 q.2.2.2.2.1 q.2.2.2.2.2.1 q.2.2.2.2.2.2)
theorem kg_lk_in : ∀ {cd : kg_Cd} {pc : Nat} {q : Nat × kg_Op}, kg_lk cd pc = some q → (pc, q) ∈ cd
  | [], _, _, h => by simp [kg_lk] at h
  | (p, r) :: l, pc, q, h => by
    unfold kg_lk at h
    by_cases e : p = pc
    · rw [if_pos e] at h
      cases h
      subst e
      exact List.mem_cons_self
    · rw [if_neg e] at h
      exact List.mem_cons_of_mem _ (kg_lk_in h)
theorem kg_sound (hB : kg_B G X (kg_cn o) cc nL d ini N0 NX) (hd1 : 1 ≤ d) (hL : G.2.2.2.2.2.1 < 2 ^ 31) {ret : kg_Qt}
    (hri : ∀ pc ls x w M, decode cc pc = .ok (.ireturn, 1) → ret (some (.int x)) w M → kg_V G X nL N0 NX pc ls [.int x] w M)
    (hrv : ∀ pc ls w M, decode cc pc = .ok (.return_, 1) → ret none w M → kg_V G X nL N0 NX pc ls [] w M)
    {cd : kg_Cd} (hok : kg_okc o ini nL cc cd = true) (f : Nat) : ∀ {pc : Nat} {ls : List (Option Value)} {st : List Value} {w : kg_W} {M : kg_M},
    kg_run G NX (kg_call G d NX) ret cd (kg_V G X nL N0 NX) f pc ls st w M → kg_V G X nL N0 NX pc ls st w M := by
  induction f with
  | zero => exact fun h => h
  | succ f ih =>
    intro pc ls st w M h
    have h1 : kg_exo G NX (kg_call G d NX) ret (kg_lk cd pc) (kg_run G NX (kg_call G d NX) ret cd (kg_V G X nL N0 NX) f) ls st w M := h
    cases hl : kg_lk cd pc with
    | none => rw [hl] at h1; exact False.elim h1
    | some q =>
      obtain ⟨nx, t, a, b, c, l⟩ := q
      rw [hl] at h1
      exact kg_step hB hd1 hL hri hrv (fun _ _ _ _ _ h => ih h) (List.all_eq_true.mp hok _ (kg_lk_in hl)) h1
end
end
section
/-! the rows of the methods as numbers (printed by wip/p28/gen10.py) -/
def kg_cd0 : kg_Cd := [(0, (1, 3, 0, 0, 0, [])), (1, (4, 44, 0, 0, 3, [])), (4, (5, 3, 0, 0, 0, [])), (5, (6, 0, 0, 0, 0, [])), (6, (9, 23, 0, 0, 9, [])), (9, (10, 3, 0, 0, 0, [])), (10, (11, 0, 0, 0, 0, [])), (11, (14, 23, 0, 1, 15, [])), (14, (15, 3, 0, 0, 0, [])), (15, (16, 0, 4, 0, 0, [])), (16, (18, 37, 0, 0, 0, [])), (18, (21, 25, 0, 2, 18, [])), (21, (22, 3, 0, 0, 0, [])), (22, (24, 0, 10, 0, 0, [])), (24, (26, 37, 0, 0, 0, [])), (26, (29, 25, 0, 3, 22, [])), (29, (30, 3, 0, 0, 0, [])), (30, (32, 0, 10, 0, 0, [])), (32, (34, 37, 0, 0, 0, [])), (34, (37, 25, 0, 4, 25, [])), (37, (38, 3, 0, 0, 0, [])), (38, (40, 0, 10, 0, 0, [])), (40, (42, 37, 0, 0, 0, [])), (42, (45, 25, 0, 5, 28, [])), (45, (46, 3, 0, 0, 0, [])), (46, (48, 0, 10, 0, 0, [])), (48, (50, 37, 0, 0, 0, [])), (50, (53, 25, 0, 6, 31, [])), (53, (54, 49, 0, 0, 0, []))]
set_option maxRecDepth 100000 in
theorem kg_ok0 : kg_okc 0 true 1 cX0_init kg_cd0 = true := by decide +kernel
set_option maxRecDepth 100000 in
theorem kg_lk0 : kg_lk kg_cd0 0 = some (1, 3, 0, 0, 0, []) ∧ kg_lk kg_cd0 1 = some (4, 44, 0, 0, 3, []) ∧ kg_lk kg_cd0 4 = some (5, 3, 0, 0, 0, []) ∧ kg_lk kg_cd0 5 = some (6, 0, 0, 0, 0, []) ∧ kg_lk kg_cd0 6 = some (9, 23, 0, 0, 9, []) ∧ kg_lk kg_cd0 9 = some (10, 3, 0, 0, 0, []) ∧ kg_lk kg_cd0 10 = some (11, 0, 0, 0, 0, []) ∧ kg_lk kg_cd0 11 = some (14, 23, 0, 1, 15, []) ∧ kg_lk kg_cd0 14 = some (15, 3, 0, 0, 0, []) ∧ kg_lk kg_cd0 15 = some (16, 0, 4, 0, 0, []) ∧ kg_lk kg_cd0 16 = some (18, 37, 0, 0, 0, []) ∧ kg_lk kg_cd0 18 = some (21, 25, 0, 2, 18, []) ∧ kg_lk kg_cd0 21 = some (22, 3, 0, 0, 0, []) ∧ kg_lk kg_cd0 22 = some (24, 0, 10, 0, 0, []) ∧ kg_lk kg_cd0 24 = some (26, 37, 0, 0, 0, []) ∧ kg_lk kg_cd0 26 = some (29, 25, 0, 3, 22, []) ∧ kg_lk kg_cd0 29 = some (30, 3, 0, 0, 0, []) ∧ kg_lk kg_cd0 30 = some (32, 0, 10, 0, 0, []) ∧ kg_lk kg_cd0 32 = some (34, 37, 0, 0, 0, []) ∧ kg_lk kg_cd0 34 = some (37, 25, 0, 4, 25, []) ∧ kg_lk kg_cd0 37 = some (38, 3, 0, 0, 0, []) ∧ kg_lk kg_cd0 38 = some (40, 0, 10, 0, 0, []) ∧ kg_lk kg_cd0 40 = some (42, 37, 0, 0, 0, []) ∧ kg_lk kg_cd0 42 = some (45, 25, 0, 5, 28, []) ∧ kg_lk kg_cd0 45 = some (46, 3, 0, 0, 0, []) ∧ kg_lk kg_cd0 46 = some (48, 0, 10, 0, 0, []) ∧ kg_lk kg_cd0 48 = some (50, 37, 0, 0, 0, []) ∧ kg_lk kg_cd0 50 = some (53, 25, 0, 6, 31, []) ∧ kg_lk kg_cd0 53 = some (54, 49, 0, 0, 0, []) := by refine ⟨?_, ?_, ?_, ?_, ?_, ?_, ?_, ?_, ?_, ?_, ?_, ?_, ?_, ?_, ?_, ?_, ?_, ?_, ?_, ?_, ?_, ?_, ?_, ?_, ?_, ?_, ?_, ?_, ?_⟩ <;> rfl
def kg_cd1 : kg_Cd := [(0, (1, 3, 0, 0, 0, [])), (1, (2, 3, 1, 0, 0, [])), (2, (5, 21, 0, 0, 9, [])), (5, (8, 23, 0, 0, 9, [])), (8, (9, 3, 0, 0, 0, [])), (9, (10, 3, 1, 0, 0, [])), (10, (13, 21, 0, 1, 15, [])), (13, (16, 23, 0, 1, 15, [])), (16, (17, 3, 1, 0, 0, [])), (17, (20, 22, 0, 2, 18, [])), (20, (21, 0, 0, 0, 0, [])), (21, (22, 3, 0, 0, 0, [])), (22, (25, 22, 0, 2, 18, [])), (25, (26, 0, 0, 0, 0, [])), (26, (27, 0, 4, 0, 0, [])), (27, (30, 47, 0, 0, 34, [])), (30, (31, 3, 1, 0, 0, [])), (31, (34, 22, 0, 3, 22, [])), (34, (35, 0, 0, 0, 0, [])), (35, (36, 3, 0, 0, 0, [])), (36, (39, 22, 0, 3, 22, [])), (39, (40, 0, 0, 0, 0, [])), (40, (42, 0, 10, 0, 0, [])), (42, (45, 47, 0, 0, 34, [])), (45, (46, 3, 1, 0, 0, [])), (46, (49, 22, 0, 4, 25, [])), (49, (50, 0, 0, 0, 0, [])), (50, (51, 3, 0, 0, 0, [])), (51, (54, 22, 0, 4, 25, [])), (54, (55, 0, 0, 0, 0, [])), (55, (57, 0, 10, 0, 0, [])), (57, (60, 47, 0, 0, 34, [])), (60, (61, 3, 1, 0, 0, [])), (61, (64, 22, 0, 5, 28, [])), (64, (65, 0, 0, 0, 0, [])), (65, (66, 3, 0, 0, 0, [])), (66, (69, 22, 0, 5, 28, [])), (69, (70, 0, 0, 0, 0, [])), (70, (72, 0, 10, 0, 0, [])), (72, (75, 47, 0, 0, 34, [])), (75, (76, 3, 1, 0, 0, [])), (76, (79, 22, 0, 6, 31, [])), (79, (80, 0, 0, 0, 0, [])), (80, (81, 3, 0, 0, 0, [])), (81, (84, 22, 0, 6, 31, [])), (84, (85, 0, 0, 0, 0, [])), (85, (87, 0, 10, 0, 0, [])), (87, (90, 47, 0, 0, 34, [])), (90, (91, 49, 0, 0, 0, []))]
set_option maxRecDepth 100000 in
theorem kg_ok1 : kg_okc 0 false 2 cX0_copyFrom kg_cd1 = true := by decide +kernel
set_option maxRecDepth 100000 in
theorem kg_lk1 : kg_lk kg_cd1 0 = some (1, 3, 0, 0, 0, []) ∧ kg_lk kg_cd1 1 = some (2, 3, 1, 0, 0, []) ∧ kg_lk kg_cd1 2 = some (5, 21, 0, 0, 9, []) ∧ kg_lk kg_cd1 5 = some (8, 23, 0, 0, 9, []) ∧ kg_lk kg_cd1 8 = some (9, 3, 0, 0, 0, []) ∧ kg_lk kg_cd1 9 = some (10, 3, 1, 0, 0, []) ∧ kg_lk kg_cd1 10 = some (13, 21, 0, 1, 15, []) ∧ kg_lk kg_cd1 13 = some (16, 23, 0, 1, 15, []) ∧ kg_lk kg_cd1 16 = some (17, 3, 1, 0, 0, []) ∧ kg_lk kg_cd1 17 = some (20, 22, 0, 2, 18, []) ∧ kg_lk kg_cd1 20 = some (21, 0, 0, 0, 0, []) ∧ kg_lk kg_cd1 21 = some (22, 3, 0, 0, 0, []) ∧ kg_lk kg_cd1 22 = some (25, 22, 0, 2, 18, []) ∧ kg_lk kg_cd1 25 = some (26, 0, 0, 0, 0, []) ∧ kg_lk kg_cd1 26 = some (27, 0, 4, 0, 0, []) ∧ kg_lk kg_cd1 27 = some (30, 47, 0, 0, 34, []) ∧ kg_lk kg_cd1 30 = some (31, 3, 1, 0, 0, []) ∧ kg_lk kg_cd1 31 = some (34, 22, 0, 3, 22, []) ∧ kg_lk kg_cd1 34 = some (35, 0, 0, 0, 0, []) ∧ kg_lk kg_cd1 35 = some (36, 3, 0, 0, 0, []) ∧ kg_lk kg_cd1 36 = some (39, 22, 0, 3, 22, []) ∧ kg_lk kg_cd1 39 = some (40, 0, 0, 0, 0, []) ∧ kg_lk kg_cd1 40 = some (42, 0, 10, 0, 0, []) ∧ kg_lk kg_cd1 42 = some (45, 47, 0, 0, 34, []) ∧ kg_lk kg_cd1 45 = some (46, 3, 1, 0, 0, []) ∧ kg_lk kg_cd1 46 = some (49, 22, 0, 4, 25, []) ∧ kg_lk kg_cd1 49 = some (50, 0, 0, 0, 0, []) ∧ kg_lk kg_cd1 50 = some (51, 3, 0, 0, 0, []) ∧ kg_lk kg_cd1 51 = some (54, 22, 0, 4, 25, []) ∧ kg_lk kg_cd1 54 = some (55, 0, 0, 0, 0, []) ∧ kg_lk kg_cd1 55 = some (57, 0, 10, 0, 0, []) ∧ kg_lk kg_cd1 57 = some (60, 47, 0, 0, 34, []) ∧ kg_lk kg_cd1 60 = some (61, 3, 1, 0, 0, []) ∧ kg_lk kg_cd1 61 = some (64, 22, 0, 5, 28, []) ∧ kg_lk kg_cd1 64 = some (65, 0, 0, 0, 0, []) ∧ kg_lk kg_cd1 65 = some (66, 3, 0, 0, 0, []) ∧ kg_lk kg_cd1 66 = some (69, 22, 0, 5, 28, []) ∧ kg_lk kg_cd1 69 = some (70, 0, 0, 0, 0, []) ∧ kg_lk kg_cd1 70 = some (72, 0, 10, 0, 0, []) ∧ kg_lk kg_cd1 72 = some (75, 47, 0, 0, 34, []) ∧ kg_lk kg_cd1 75 = some (76, 3, 1, 0, 0, []) ∧ kg_lk kg_cd1 76 = some (79, 22, 0, 6, 31, []) ∧ kg_lk kg_cd1 79 = some (80, 0, 0, 0, 0, []) ∧ kg_lk kg_cd1 80 = some (81, 3, 0, 0, 0, []) ∧ kg_lk kg_cd1 81 = some (84, 22, 0, 6, 31, []) ∧ kg_lk kg_cd1 84 = some (85, 0, 0, 0, 0, []) ∧ kg_lk kg_cd1 85 = some (87, 0, 10, 0, 0, []) ∧ kg_lk kg_cd1 87 = some (90, 47, 0, 0, 34, []) ∧ kg_lk kg_cd1 90 = some (91, 49, 0, 0, 0, []) := by refine ⟨?_, ?_, ?_, ?_, ?_, ?_, ?_, ?_, ?_, ?_, ?_, ?_, ?_, ?_, ?_, ?_, ?_, ?_, ?_, ?_, ?_, ?_, ?_, ?_, ?_, ?_, ?_, ?_, ?_, ?_, ?_, ?_, ?_, ?_, ?_, ?_, ?_, ?_, ?_, ?_, ?_, ?_, ?_, ?_, ?_, ?_, ?_, ?_, ?_⟩ <;> rfl
def kg_cd2 : kg_Cd := [(0, (1, 3, 0, 0, 0, [])), (1, (2, 3, 0, 0, 0, [])), (2, (5, 21, 0, 1, 15, [])), (5, (6, 0, 1, 0, 0, [])), (6, (7, 7, 0, 0, 0, [])), (7, (9, 0, 10, 0, 0, [])), (9, (10, 10, 0, 0, 0, [])), (10, (13, 23, 0, 1, 15, [])), (13, (14, 3, 0, 0, 0, [])), (14, (17, 22, 0, 3, 22, [])), (17, (18, 3, 0, 0, 0, [])), (18, (21, 21, 0, 1, 15, [])), (21, (22, 2, 1, 0, 0, [])), (22, (23, 31, 0, 0, 0, [])), (23, (24, 3, 0, 0, 0, [])), (24, (27, 22, 0, 4, 25, [])), (27, (28, 3, 0, 0, 0, [])), (28, (31, 21, 0, 1, 15, [])), (31, (32, 2, 2, 0, 0, [])), (32, (33, 31, 0, 0, 0, [])), (33, (34, 3, 0, 0, 0, [])), (34, (37, 22, 0, 5, 28, [])), (37, (38, 3, 0, 0, 0, [])), (38, (41, 21, 0, 1, 15, [])), (41, (42, 2, 3, 0, 0, [])), (42, (43, 31, 0, 0, 0, [])), (43, (44, 3, 0, 0, 0, [])), (44, (47, 22, 0, 6, 31, [])), (47, (48, 3, 0, 0, 0, [])), (48, (51, 21, 0, 1, 15, [])), (51, (53, 2, 4, 0, 0, [])), (53, (54, 31, 0, 0, 0, [])), (54, (55, 3, 0, 0, 0, [])), (55, (58, 22, 0, 2, 18, [])), (58, (59, 2, 1, 0, 0, [])), (59, (60, 14, 0, 0, 0, [])), (60, (61, 27, 0, 0, 0, [])), (61, (62, 0, 1, 0, 0, [])), (62, (63, 7, 0, 0, 0, [])), (63, (64, 31, 0, 0, 0, [])), (64, (65, 3, 0, 0, 0, [])), (65, (68, 21, 0, 0, 9, [])), (68, (70, 0, 10, 0, 0, [])), (70, (73, 17, 3, 83, 0, [])), (73, (74, 3, 0, 0, 0, [])), (74, (75, 13, 0, 0, 0, [])), (75, (78, 21, 0, 0, 9, [])), (78, (79, 0, 1, 0, 0, [])), (79, (80, 7, 0, 0, 0, [])), (80, (83, 23, 0, 0, 9, [])), (83, (84, 49, 0, 0, 0, []))]
set_option maxRecDepth 100000 in
theorem kg_ok2 : kg_okc 0 false 5 cX0_add kg_cd2 = true := by decide +kernel
set_option maxRecDepth 100000 in
theorem kg_lk2 : kg_lk kg_cd2 0 = some (1, 3, 0, 0, 0, []) ∧ kg_lk kg_cd2 1 = some (2, 3, 0, 0, 0, []) ∧ kg_lk kg_cd2 2 = some (5, 21, 0, 1, 15, []) ∧ kg_lk kg_cd2 5 = some (6, 0, 1, 0, 0, []) ∧ kg_lk kg_cd2 6 = some (7, 7, 0, 0, 0, []) ∧ kg_lk kg_cd2 7 = some (9, 0, 10, 0, 0, []) ∧ kg_lk kg_cd2 9 = some (10, 10, 0, 0, 0, []) ∧ kg_lk kg_cd2 10 = some (13, 23, 0, 1, 15, []) ∧ kg_lk kg_cd2 13 = some (14, 3, 0, 0, 0, []) ∧ kg_lk kg_cd2 14 = some (17, 22, 0, 3, 22, []) ∧ kg_lk kg_cd2 17 = some (18, 3, 0, 0, 0, []) ∧ kg_lk kg_cd2 18 = some (21, 21, 0, 1, 15, []) ∧ kg_lk kg_cd2 21 = some (22, 2, 1, 0, 0, []) ∧ kg_lk kg_cd2 22 = some (23, 31, 0, 0, 0, []) ∧ kg_lk kg_cd2 23 = some (24, 3, 0, 0, 0, []) ∧ kg_lk kg_cd2 24 = some (27, 22, 0, 4, 25, []) ∧ kg_lk kg_cd2 27 = some (28, 3, 0, 0, 0, []) ∧ kg_lk kg_cd2 28 = some (31, 21, 0, 1, 15, []) ∧ kg_lk kg_cd2 31 = some (32, 2, 2, 0, 0, []) ∧ kg_lk kg_cd2 32 = some (33, 31, 0, 0, 0, []) ∧ kg_lk kg_cd2 33 = some (34, 3, 0, 0, 0, []) ∧ kg_lk kg_cd2 34 = some (37, 22, 0, 5, 28, []) ∧ kg_lk kg_cd2 37 = some (38, 3, 0, 0, 0, []) ∧ kg_lk kg_cd2 38 = some (41, 21, 0, 1, 15, []) ∧ kg_lk kg_cd2 41 = some (42, 2, 3, 0, 0, []) ∧ kg_lk kg_cd2 42 = some (43, 31, 0, 0, 0, []) ∧ kg_lk kg_cd2 43 = some (44, 3, 0, 0, 0, []) ∧ kg_lk kg_cd2 44 = some (47, 22, 0, 6, 31, []) ∧ kg_lk kg_cd2 47 = some (48, 3, 0, 0, 0, []) ∧ kg_lk kg_cd2 48 = some (51, 21, 0, 1, 15, []) ∧ kg_lk kg_cd2 51 = some (53, 2, 4, 0, 0, []) ∧ kg_lk kg_cd2 53 = some (54, 31, 0, 0, 0, []) ∧ kg_lk kg_cd2 54 = some (55, 3, 0, 0, 0, []) ∧ kg_lk kg_cd2 55 = some (58, 22, 0, 2, 18, []) ∧ kg_lk kg_cd2 58 = some (59, 2, 1, 0, 0, []) ∧ kg_lk kg_cd2 59 = some (60, 14, 0, 0, 0, []) ∧ kg_lk kg_cd2 60 = some (61, 27, 0, 0, 0, []) ∧ kg_lk kg_cd2 61 = some (62, 0, 1, 0, 0, []) ∧ kg_lk kg_cd2 62 = some (63, 7, 0, 0, 0, []) ∧ kg_lk kg_cd2 63 = some (64, 31, 0, 0, 0, []) ∧ kg_lk kg_cd2 64 = some (65, 3, 0, 0, 0, []) ∧ kg_lk kg_cd2 65 = some (68, 21, 0, 0, 9, []) ∧ kg_lk kg_cd2 68 = some (70, 0, 10, 0, 0, []) ∧ kg_lk kg_cd2 70 = some (73, 17, 3, 83, 0, []) ∧ kg_lk kg_cd2 73 = some (74, 3, 0, 0, 0, []) ∧ kg_lk kg_cd2 74 = some (75, 13, 0, 0, 0, []) ∧ kg_lk kg_cd2 75 = some (78, 21, 0, 0, 9, []) ∧ kg_lk kg_cd2 78 = some (79, 0, 1, 0, 0, []) ∧ kg_lk kg_cd2 79 = some (80, 7, 0, 0, 0, []) ∧ kg_lk kg_cd2 80 = some (83, 23, 0, 0, 9, []) ∧ kg_lk kg_cd2 83 = some (84, 49, 0, 0, 0, []) := by refine ⟨?_, ?_, ?_, ?_, ?_, ?_, ?_, ?_, ?_, ?_, ?_, ?_, ?_, ?_, ?_, ?_, ?_, ?_, ?_, ?_, ?_, ?_, ?_, ?_, ?_, ?_, ?_, ?_, ?_, ?_, ?_, ?_, ?_, ?_, ?_, ?_, ?_, ?_, ?_, ?_, ?_, ?_, ?_, ?_, ?_, ?_, ?_, ?_, ?_, ?_, ?_⟩ <;> rfl
def kg_cd4 : kg_Cd := [(0, (1, 3, 0, 0, 0, [])), (1, (4, 44, 0, 0, 3, [])), (4, (5, 3, 0, 0, 0, [])), (5, (7, 0, 40, 0, 0, [])), (7, (9, 37, 0, 0, 0, [])), (9, (12, 25, 1, 0, 9, [])), (12, (13, 3, 0, 0, 0, [])), (13, (15, 0, 40, 0, 0, [])), (15, (17, 37, 0, 0, 0, [])), (17, (20, 25, 1, 1, 15, [])), (20, (21, 3, 0, 0, 0, [])), (21, (23, 0, 40, 0, 0, [])), (23, (25, 37, 0, 0, 0, [])), (25, (28, 25, 1, 2, 18, [])), (28, (29, 3, 0, 0, 0, [])), (29, (31, 0, 40, 0, 0, [])), (31, (33, 37, 0, 0, 0, [])), (33, (36, 25, 1, 3, 21, [])), (36, (37, 49, 0, 0, 0, []))]
set_option maxRecDepth 100000 in
theorem kg_ok4 : kg_okc 1 true 1 cX1_init kg_cd4 = true := by decide +kernel
set_option maxRecDepth 100000 in
theorem kg_lk4 : kg_lk kg_cd4 0 = some (1, 3, 0, 0, 0, []) ∧ kg_lk kg_cd4 1 = some (4, 44, 0, 0, 3, []) ∧ kg_lk kg_cd4 4 = some (5, 3, 0, 0, 0, []) ∧ kg_lk kg_cd4 5 = some (7, 0, 40, 0, 0, []) ∧ kg_lk kg_cd4 7 = some (9, 37, 0, 0, 0, []) ∧ kg_lk kg_cd4 9 = some (12, 25, 1, 0, 9, []) ∧ kg_lk kg_cd4 12 = some (13, 3, 0, 0, 0, []) ∧ kg_lk kg_cd4 13 = some (15, 0, 40, 0, 0, []) ∧ kg_lk kg_cd4 15 = some (17, 37, 0, 0, 0, []) ∧ kg_lk kg_cd4 17 = some (20, 25, 1, 1, 15, []) ∧ kg_lk kg_cd4 20 = some (21, 3, 0, 0, 0, []) ∧ kg_lk kg_cd4 21 = some (23, 0, 40, 0, 0, []) ∧ kg_lk kg_cd4 23 = some (25, 37, 0, 0, 0, []) ∧ kg_lk kg_cd4 25 = some (28, 25, 1, 2, 18, []) ∧ kg_lk kg_cd4 28 = some (29, 3, 0, 0, 0, []) ∧ kg_lk kg_cd4 29 = some (31, 0, 40, 0, 0, []) ∧ kg_lk kg_cd4 31 = some (33, 37, 0, 0, 0, []) ∧ kg_lk kg_cd4 33 = some (36, 25, 1, 3, 21, []) ∧ kg_lk kg_cd4 36 = some (37, 49, 0, 0, 0, []) := by refine ⟨?_, ?_, ?_, ?_, ?_, ?_, ?_, ?_, ?_, ?_, ?_, ?_, ?_, ?_, ?_, ?_, ?_, ?_, ?_⟩ <;> rfl
def kg_cd5 : kg_Cd := [(0, (1, 3, 1, 0, 0, [])), (1, (4, 22, 1, 0, 9, [])), (4, (5, 0, 0, 0, 0, [])), (5, (6, 3, 0, 0, 0, [])), (6, (9, 22, 1, 0, 9, [])), (9, (10, 0, 0, 0, 0, [])), (10, (12, 0, 40, 0, 0, [])), (12, (15, 47, 0, 0, 24, [])), (15, (16, 3, 1, 0, 0, [])), (16, (19, 22, 1, 1, 15, [])), (19, (20, 0, 0, 0, 0, [])), (20, (21, 3, 0, 0, 0, [])), (21, (24, 22, 1, 1, 15, [])), (24, (25, 0, 0, 0, 0, [])), (25, (27, 0, 40, 0, 0, [])), (27, (30, 47, 0, 0, 24, [])), (30, (31, 3, 1, 0, 0, [])), (31, (34, 22, 1, 2, 18, [])), (34, (35, 0, 0, 0, 0, [])), (35, (36, 3, 0, 0, 0, [])), (36, (39, 22, 1, 2, 18, [])), (39, (40, 0, 0, 0, 0, [])), (40, (42, 0, 40, 0, 0, [])), (42, (45, 47, 0, 0, 24, [])), (45, (46, 3, 1, 0, 0, [])), (46, (49, 22, 1, 3, 21, [])), (49, (50, 0, 0, 0, 0, [])), (50, (51, 3, 0, 0, 0, [])), (51, (54, 22, 1, 3, 21, [])), (54, (55, 0, 0, 0, 0, [])), (55, (57, 0, 40, 0, 0, [])), (57, (60, 47, 0, 0, 24, [])), (60, (61, 49, 0, 0, 0, []))]
set_option maxRecDepth 100000 in
theorem kg_ok5 : kg_okc 1 false 2 cX1_copyFrom kg_cd5 = true := by decide +kernel
set_option maxRecDepth 100000 in
theorem kg_lk5 : kg_lk kg_cd5 0 = some (1, 3, 1, 0, 0, []) ∧ kg_lk kg_cd5 1 = some (4, 22, 1, 0, 9, []) ∧ kg_lk kg_cd5 4 = some (5, 0, 0, 0, 0, []) ∧ kg_lk kg_cd5 5 = some (6, 3, 0, 0, 0, []) ∧ kg_lk kg_cd5 6 = some (9, 22, 1, 0, 9, []) ∧ kg_lk kg_cd5 9 = some (10, 0, 0, 0, 0, []) ∧ kg_lk kg_cd5 10 = some (12, 0, 40, 0, 0, []) ∧ kg_lk kg_cd5 12 = some (15, 47, 0, 0, 24, []) ∧ kg_lk kg_cd5 15 = some (16, 3, 1, 0, 0, []) ∧ kg_lk kg_cd5 16 = some (19, 22, 1, 1, 15, []) ∧ kg_lk kg_cd5 19 = some (20, 0, 0, 0, 0, []) ∧ kg_lk kg_cd5 20 = some (21, 3, 0, 0, 0, []) ∧ kg_lk kg_cd5 21 = some (24, 22, 1, 1, 15, []) ∧ kg_lk kg_cd5 24 = some (25, 0, 0, 0, 0, []) ∧ kg_lk kg_cd5 25 = some (27, 0, 40, 0, 0, []) ∧ kg_lk kg_cd5 27 = some (30, 47, 0, 0, 24, []) ∧ kg_lk kg_cd5 30 = some (31, 3, 1, 0, 0, []) ∧ kg_lk kg_cd5 31 = some (34, 22, 1, 2, 18, []) ∧ kg_lk kg_cd5 34 = some (35, 0, 0, 0, 0, []) ∧ kg_lk kg_cd5 35 = some (36, 3, 0, 0, 0, []) ∧ kg_lk kg_cd5 36 = some (39, 22, 1, 2, 18, []) ∧ kg_lk kg_cd5 39 = some (40, 0, 0, 0, 0, []) ∧ kg_lk kg_cd5 40 = some (42, 0, 40, 0, 0, []) ∧ kg_lk kg_cd5 42 = some (45, 47, 0, 0, 24, []) ∧ kg_lk kg_cd5 45 = some (46, 3, 1, 0, 0, []) ∧ kg_lk kg_cd5 46 = some (49, 22, 1, 3, 21, []) ∧ kg_lk kg_cd5 49 = some (50, 0, 0, 0, 0, []) ∧ kg_lk kg_cd5 50 = some (51, 3, 0, 0, 0, []) ∧ kg_lk kg_cd5 51 = some (54, 22, 1, 3, 21, []) ∧ kg_lk kg_cd5 54 = some (55, 0, 0, 0, 0, []) ∧ kg_lk kg_cd5 55 = some (57, 0, 40, 0, 0, []) ∧ kg_lk kg_cd5 57 = some (60, 47, 0, 0, 24, []) ∧ kg_lk kg_cd5 60 = some (61, 49, 0, 0, 0, []) := by refine ⟨?_, ?_, ?_, ?_, ?_, ?_, ?_, ?_, ?_, ?_, ?_, ?_, ?_, ?_, ?_, ?_, ?_, ?_, ?_, ?_, ?_, ?_, ?_, ?_, ?_, ?_, ?_, ?_, ?_, ?_, ?_, ?_, ?_⟩ <;> rfl
def kg_cd6 : kg_Cd := [(0, (1, 3, 0, 0, 0, [])), (1, (4, 22, 1, 0, 9, [])), (4, (5, 2, 1, 0, 0, [])), (5, (6, 2, 2, 0, 0, [])), (6, (7, 31, 0, 0, 0, [])), (7, (8, 3, 0, 0, 0, [])), (8, (11, 22, 1, 1, 15, [])), (11, (12, 2, 1, 0, 0, [])), (12, (13, 2, 3, 0, 0, [])), (13, (14, 31, 0, 0, 0, [])), (14, (15, 3, 0, 0, 0, [])), (15, (18, 22, 1, 2, 18, [])), (18, (19, 2, 1, 0, 0, [])), (19, (21, 2, 4, 0, 0, [])), (21, (22, 31, 0, 0, 0, [])), (22, (23, 3, 0, 0, 0, [])), (23, (26, 22, 1, 3, 21, [])), (26, (27, 2, 1, 0, 0, [])), (27, (29, 2, 4, 0, 0, [])), (29, (30, 31, 0, 0, 0, [])), (30, (31, 49, 0, 0, 0, []))]
set_option maxRecDepth 100000 in
theorem kg_ok6 : kg_okc 1 false 5 cX1_put kg_cd6 = true := by decide +kernel
set_option maxRecDepth 100000 in
theorem kg_lk6 : kg_lk kg_cd6 0 = some (1, 3, 0, 0, 0, []) ∧ kg_lk kg_cd6 1 = some (4, 22, 1, 0, 9, []) ∧ kg_lk kg_cd6 4 = some (5, 2, 1, 0, 0, []) ∧ kg_lk kg_cd6 5 = some (6, 2, 2, 0, 0, []) ∧ kg_lk kg_cd6 6 = some (7, 31, 0, 0, 0, []) ∧ kg_lk kg_cd6 7 = some (8, 3, 0, 0, 0, []) ∧ kg_lk kg_cd6 8 = some (11, 22, 1, 1, 15, []) ∧ kg_lk kg_cd6 11 = some (12, 2, 1, 0, 0, []) ∧ kg_lk kg_cd6 12 = some (13, 2, 3, 0, 0, []) ∧ kg_lk kg_cd6 13 = some (14, 31, 0, 0, 0, []) ∧ kg_lk kg_cd6 14 = some (15, 3, 0, 0, 0, []) ∧ kg_lk kg_cd6 15 = some (18, 22, 1, 2, 18, []) ∧ kg_lk kg_cd6 18 = some (19, 2, 1, 0, 0, []) ∧ kg_lk kg_cd6 19 = some (21, 2, 4, 0, 0, []) ∧ kg_lk kg_cd6 21 = some (22, 31, 0, 0, 0, []) ∧ kg_lk kg_cd6 22 = some (23, 3, 0, 0, 0, []) ∧ kg_lk kg_cd6 23 = some (26, 22, 1, 3, 21, []) ∧ kg_lk kg_cd6 26 = some (27, 2, 1, 0, 0, []) ∧ kg_lk kg_cd6 27 = some (29, 2, 4, 0, 0, []) ∧ kg_lk kg_cd6 29 = some (30, 31, 0, 0, 0, []) ∧ kg_lk kg_cd6 30 = some (31, 49, 0, 0, 0, []) := by refine ⟨?_, ?_, ?_, ?_, ?_, ?_, ?_, ?_, ?_, ?_, ?_, ?_, ?_, ?_, ?_, ?_, ?_, ?_, ?_, ?_, ?_⟩ <;> rfl
def kg_cd7 : kg_Cd := [(0, (1, 3, 0, 0, 0, [])), (1, (4, 22, 1, 0, 9, [])), (4, (5, 2, 1, 0, 0, [])), (5, (6, 27, 0, 0, 0, [])), (6, (9, 16, 1, 11, 0, [])), (9, (10, 0, 0, 0, 0, [])), (10, (11, 48, 0, 0, 0, [])), (11, (12, 3, 0, 0, 0, [])), (12, (15, 22, 1, 1, 15, [])), (15, (16, 2, 1, 0, 0, [])), (16, (17, 27, 0, 0, 0, [])), (17, (18, 1, 1, 0, 0, [])), (18, (21, 17, 1, 25, 0, [])), (21, (22, 0, 2, 0, 0, [])), (22, (25, 18, 0, 26, 0, [])), (25, (26, 0, 1, 0, 0, [])), (26, (27, 48, 0, 0, 0, []))]
set_option maxRecDepth 100000 in
theorem kg_ok7 : kg_okc 1 false 2 cX1_kindAt kg_cd7 = true := by decide +kernel
set_option maxRecDepth 100000 in
theorem kg_lk7 : kg_lk kg_cd7 0 = some (1, 3, 0, 0, 0, []) ∧ kg_lk kg_cd7 1 = some (4, 22, 1, 0, 9, []) ∧ kg_lk kg_cd7 4 = some (5, 2, 1, 0, 0, []) ∧ kg_lk kg_cd7 5 = some (6, 27, 0, 0, 0, []) ∧ kg_lk kg_cd7 6 = some (9, 16, 1, 11, 0, []) ∧ kg_lk kg_cd7 9 = some (10, 0, 0, 0, 0, []) ∧ kg_lk kg_cd7 10 = some (11, 48, 0, 0, 0, []) ∧ kg_lk kg_cd7 11 = some (12, 3, 0, 0, 0, []) ∧ kg_lk kg_cd7 12 = some (15, 22, 1, 1, 15, []) ∧ kg_lk kg_cd7 15 = some (16, 2, 1, 0, 0, []) ∧ kg_lk kg_cd7 16 = some (17, 27, 0, 0, 0, []) ∧ kg_lk kg_cd7 17 = some (18, 1, 1, 0, 0, []) ∧ kg_lk kg_cd7 18 = some (21, 17, 1, 25, 0, []) ∧ kg_lk kg_cd7 21 = some (22, 0, 2, 0, 0, []) ∧ kg_lk kg_cd7 22 = some (25, 18, 0, 26, 0, []) ∧ kg_lk kg_cd7 25 = some (26, 0, 1, 0, 0, []) ∧ kg_lk kg_cd7 26 = some (27, 48, 0, 0, 0, []) := by refine ⟨?_, ?_, ?_, ?_, ?_, ?_, ?_, ?_, ?_, ?_, ?_, ?_, ?_, ?_, ?_, ?_, ?_⟩ <;> rfl
def kg_cd8 : kg_Cd := [(0, (1, 3, 0, 0, 0, [])), (1, (4, 22, 1, 0, 9, [])), (4, (5, 2, 1, 0, 0, [])), (5, (6, 3, 0, 0, 0, [])), (6, (9, 22, 1, 0, 9, [])), (9, (10, 2, 2, 0, 0, [])), (10, (11, 27, 0, 0, 0, [])), (11, (12, 31, 0, 0, 0, [])), (12, (13, 3, 0, 0, 0, [])), (13, (16, 22, 1, 1, 15, [])), (16, (17, 2, 1, 0, 0, [])), (17, (18, 3, 0, 0, 0, [])), (18, (21, 22, 1, 1, 15, [])), (21, (22, 2, 2, 0, 0, [])), (22, (23, 27, 0, 0, 0, [])), (23, (24, 31, 0, 0, 0, [])), (24, (25, 3, 0, 0, 0, [])), (25, (28, 22, 1, 2, 18, [])), (28, (29, 2, 1, 0, 0, [])), (29, (30, 3, 0, 0, 0, [])), (30, (33, 22, 1, 2, 18, [])), (33, (34, 2, 2, 0, 0, [])), (34, (35, 27, 0, 0, 0, [])), (35, (36, 31, 0, 0, 0, [])), (36, (37, 3, 0, 0, 0, [])), (37, (40, 22, 1, 3, 21, [])), (40, (41, 2, 1, 0, 0, [])), (41, (42, 2, 3, 0, 0, [])), (42, (43, 31, 0, 0, 0, [])), (43, (44, 49, 0, 0, 0, []))]
set_option maxRecDepth 100000 in
theorem kg_ok8 : kg_okc 1 false 4 cX1_take kg_cd8 = true := by decide +kernel
set_option maxRecDepth 100000 in
theorem kg_lk8 : kg_lk kg_cd8 0 = some (1, 3, 0, 0, 0, []) ∧ kg_lk kg_cd8 1 = some (4, 22, 1, 0, 9, []) ∧ kg_lk kg_cd8 4 = some (5, 2, 1, 0, 0, []) ∧ kg_lk kg_cd8 5 = some (6, 3, 0, 0, 0, []) ∧ kg_lk kg_cd8 6 = some (9, 22, 1, 0, 9, []) ∧ kg_lk kg_cd8 9 = some (10, 2, 2, 0, 0, []) ∧ kg_lk kg_cd8 10 = some (11, 27, 0, 0, 0, []) ∧ kg_lk kg_cd8 11 = some (12, 31, 0, 0, 0, []) ∧ kg_lk kg_cd8 12 = some (13, 3, 0, 0, 0, []) ∧ kg_lk kg_cd8 13 = some (16, 22, 1, 1, 15, []) ∧ kg_lk kg_cd8 16 = some (17, 2, 1, 0, 0, []) ∧ kg_lk kg_cd8 17 = some (18, 3, 0, 0, 0, []) ∧ kg_lk kg_cd8 18 = some (21, 22, 1, 1, 15, []) ∧ kg_lk kg_cd8 21 = some (22, 2, 2, 0, 0, []) ∧ kg_lk kg_cd8 22 = some (23, 27, 0, 0, 0, []) ∧ kg_lk kg_cd8 23 = some (24, 31, 0, 0, 0, []) ∧ kg_lk kg_cd8 24 = some (25, 3, 0, 0, 0, []) ∧ kg_lk kg_cd8 25 = some (28, 22, 1, 2, 18, []) ∧ kg_lk kg_cd8 28 = some (29, 2, 1, 0, 0, []) ∧ kg_lk kg_cd8 29 = some (30, 3, 0, 0, 0, []) ∧ kg_lk kg_cd8 30 = some (33, 22, 1, 2, 18, []) ∧ kg_lk kg_cd8 33 = some (34, 2, 2, 0, 0, []) ∧ kg_lk kg_cd8 34 = some (35, 27, 0, 0, 0, []) ∧ kg_lk kg_cd8 35 = some (36, 31, 0, 0, 0, []) ∧ kg_lk kg_cd8 36 = some (37, 3, 0, 0, 0, []) ∧ kg_lk kg_cd8 37 = some (40, 22, 1, 3, 21, []) ∧ kg_lk kg_cd8 40 = some (41, 2, 1, 0, 0, []) ∧ kg_lk kg_cd8 41 = some (42, 2, 3, 0, 0, []) ∧ kg_lk kg_cd8 42 = some (43, 31, 0, 0, 0, []) ∧ kg_lk kg_cd8 43 = some (44, 49, 0, 0, 0, []) := by refine ⟨?_, ?_, ?_, ?_, ?_, ?_, ?_, ?_, ?_, ?_, ?_, ?_, ?_, ?_, ?_, ?_, ?_, ?_, ?_, ?_, ?_, ?_, ?_, ?_, ?_, ?_, ?_, ?_, ?_, ?_⟩ <;> rfl
def kg_cd9 : kg_Cd := [(0, (1, 3, 0, 0, 0, [])), (1, (2, 2, 1, 0, 0, [])), (2, (5, 39, 7, 2, 30, [])), (5, (6, 0, 1, 0, 0, [])), (6, (9, 17, 1, 18, 0, [])), (9, (10, 3, 0, 0, 0, [])), (10, (13, 22, 1, 1, 15, [])), (13, (14, 2, 1, 0, 0, [])), (14, (15, 27, 0, 0, 0, [])), (15, (18, 18, 0, 20, 0, [])), (18, (20, 1, 5, 0, 0, [])), (20, (21, 48, 0, 0, 0, []))]
set_option maxRecDepth 100000 in
theorem kg_ok9 : kg_okc 1 false 2 cX1_valueAt kg_cd9 = true := by decide +kernel
set_option maxRecDepth 100000 in
theorem kg_lk9 : kg_lk kg_cd9 0 = some (1, 3, 0, 0, 0, []) ∧ kg_lk kg_cd9 1 = some (2, 2, 1, 0, 0, []) ∧ kg_lk kg_cd9 2 = some (5, 39, 7, 2, 30, []) ∧ kg_lk kg_cd9 5 = some (6, 0, 1, 0, 0, []) ∧ kg_lk kg_cd9 6 = some (9, 17, 1, 18, 0, []) ∧ kg_lk kg_cd9 9 = some (10, 3, 0, 0, 0, []) ∧ kg_lk kg_cd9 10 = some (13, 22, 1, 1, 15, []) ∧ kg_lk kg_cd9 13 = some (14, 2, 1, 0, 0, []) ∧ kg_lk kg_cd9 14 = some (15, 27, 0, 0, 0, []) ∧ kg_lk kg_cd9 15 = some (18, 18, 0, 20, 0, []) ∧ kg_lk kg_cd9 18 = some (20, 1, 5, 0, 0, []) ∧ kg_lk kg_cd9 20 = some (21, 48, 0, 0, 0, []) := by refine ⟨?_, ?_, ?_, ?_, ?_, ?_, ?_, ?_, ?_, ?_, ?_, ?_⟩ <;> rfl
def kg_cd10 : kg_Cd := [(0, (1, 3, 0, 0, 0, [])), (1, (2, 2, 1, 0, 0, [])), (2, (3, 0, 0, 0, 0, [])), (3, (4, 0, 0, 0, 0, [])), (4, (5, 0, 0, 0, 0, [])), (5, (8, 39, 6, 5, 34, [])), (8, (9, 49, 0, 0, 0, []))]
set_option maxRecDepth 100000 in
theorem kg_ok10 : kg_okc 1 false 2 cX1_forget kg_cd10 = true := by decide +kernel
set_option maxRecDepth 100000 in
theorem kg_lk10 : kg_lk kg_cd10 0 = some (1, 3, 0, 0, 0, []) ∧ kg_lk kg_cd10 1 = some (2, 2, 1, 0, 0, []) ∧ kg_lk kg_cd10 2 = some (3, 0, 0, 0, 0, []) ∧ kg_lk kg_cd10 3 = some (4, 0, 0, 0, 0, []) ∧ kg_lk kg_cd10 4 = some (5, 0, 0, 0, 0, []) ∧ kg_lk kg_cd10 5 = some (8, 39, 6, 5, 34, []) ∧ kg_lk kg_cd10 8 = some (9, 49, 0, 0, 0, []) := by refine ⟨?_, ?_, ?_, ?_, ?_, ?_, ?_⟩ <;> rfl
def kg_cd11 : kg_Cd := [(0, (1, 3, 0, 0, 0, [])), (1, (4, 44, 0, 0, 3, [])), (4, (5, 3, 0, 0, 0, [])), (5, (6, 0, 0, 0, 0, [])), (6, (9, 23, 2, 0, 9, [])), (9, (10, 3, 0, 0, 0, [])), (10, (12, 0, 10, 0, 0, [])), (12, (14, 37, 0, 0, 0, [])), (14, (17, 25, 2, 1, 15, [])), (17, (18, 3, 0, 0, 0, [])), (18, (20, 0, 10, 0, 0, [])), (20, (22, 37, 0, 0, 0, [])), (22, (25, 25, 2, 2, 19, [])), (25, (26, 3, 0, 0, 0, [])), (26, (28, 0, 10, 0, 0, [])), (28, (30, 37, 0, 0, 0, [])), (30, (33, 25, 2, 3, 22, [])), (33, (34, 49, 0, 0, 0, []))]
set_option maxRecDepth 100000 in
theorem kg_ok11 : kg_okc 2 true 1 cX2_init kg_cd11 = true := by decide +kernel
set_option maxRecDepth 100000 in
theorem kg_lk11 : kg_lk kg_cd11 0 = some (1, 3, 0, 0, 0, []) ∧ kg_lk kg_cd11 1 = some (4, 44, 0, 0, 3, []) ∧ kg_lk kg_cd11 4 = some (5, 3, 0, 0, 0, []) ∧ kg_lk kg_cd11 5 = some (6, 0, 0, 0, 0, []) ∧ kg_lk kg_cd11 6 = some (9, 23, 2, 0, 9, []) ∧ kg_lk kg_cd11 9 = some (10, 3, 0, 0, 0, []) ∧ kg_lk kg_cd11 10 = some (12, 0, 10, 0, 0, []) ∧ kg_lk kg_cd11 12 = some (14, 37, 0, 0, 0, []) ∧ kg_lk kg_cd11 14 = some (17, 25, 2, 1, 15, []) ∧ kg_lk kg_cd11 17 = some (18, 3, 0, 0, 0, []) ∧ kg_lk kg_cd11 18 = some (20, 0, 10, 0, 0, []) ∧ kg_lk kg_cd11 20 = some (22, 37, 0, 0, 0, []) ∧ kg_lk kg_cd11 22 = some (25, 25, 2, 2, 19, []) ∧ kg_lk kg_cd11 25 = some (26, 3, 0, 0, 0, []) ∧ kg_lk kg_cd11 26 = some (28, 0, 10, 0, 0, []) ∧ kg_lk kg_cd11 28 = some (30, 37, 0, 0, 0, []) ∧ kg_lk kg_cd11 30 = some (33, 25, 2, 3, 22, []) ∧ kg_lk kg_cd11 33 = some (34, 49, 0, 0, 0, []) := by refine ⟨?_, ?_, ?_, ?_, ?_, ?_, ?_, ?_, ?_, ?_, ?_, ?_, ?_, ?_, ?_, ?_, ?_, ?_⟩ <;> rfl
def kg_cd12 : kg_Cd := [(0, (1, 3, 0, 0, 0, [])), (1, (2, 3, 1, 0, 0, [])), (2, (5, 21, 2, 0, 9, [])), (5, (8, 23, 2, 0, 9, [])), (8, (9, 3, 1, 0, 0, [])), (9, (12, 22, 2, 1, 15, [])), (12, (13, 0, 0, 0, 0, [])), (13, (14, 3, 0, 0, 0, [])), (14, (17, 22, 2, 1, 15, [])), (17, (18, 0, 0, 0, 0, [])), (18, (20, 0, 10, 0, 0, [])), (20, (23, 47, 0, 0, 25, [])), (23, (24, 3, 1, 0, 0, [])), (24, (27, 22, 2, 2, 19, [])), (27, (28, 0, 0, 0, 0, [])), (28, (29, 3, 0, 0, 0, [])), (29, (32, 22, 2, 2, 19, [])), (32, (33, 0, 0, 0, 0, [])), (33, (35, 0, 10, 0, 0, [])), (35, (38, 47, 0, 0, 25, [])), (38, (39, 3, 1, 0, 0, [])), (39, (42, 22, 2, 3, 22, [])), (42, (43, 0, 0, 0, 0, [])), (43, (44, 3, 0, 0, 0, [])), (44, (47, 22, 2, 3, 22, [])), (47, (48, 0, 0, 0, 0, [])), (48, (50, 0, 10, 0, 0, [])), (50, (53, 47, 0, 0, 25, [])), (53, (54, 49, 0, 0, 0, []))]
set_option maxRecDepth 100000 in
theorem kg_ok12 : kg_okc 2 false 2 cX2_copyFrom kg_cd12 = true := by decide +kernel
set_option maxRecDepth 100000 in
theorem kg_lk12 : kg_lk kg_cd12 0 = some (1, 3, 0, 0, 0, []) ∧ kg_lk kg_cd12 1 = some (2, 3, 1, 0, 0, []) ∧ kg_lk kg_cd12 2 = some (5, 21, 2, 0, 9, []) ∧ kg_lk kg_cd12 5 = some (8, 23, 2, 0, 9, []) ∧ kg_lk kg_cd12 8 = some (9, 3, 1, 0, 0, []) ∧ kg_lk kg_cd12 9 = some (12, 22, 2, 1, 15, []) ∧ kg_lk kg_cd12 12 = some (13, 0, 0, 0, 0, []) ∧ kg_lk kg_cd12 13 = some (14, 3, 0, 0, 0, []) ∧ kg_lk kg_cd12 14 = some (17, 22, 2, 1, 15, []) ∧ kg_lk kg_cd12 17 = some (18, 0, 0, 0, 0, []) ∧ kg_lk kg_cd12 18 = some (20, 0, 10, 0, 0, []) ∧ kg_lk kg_cd12 20 = some (23, 47, 0, 0, 25, []) ∧ kg_lk kg_cd12 23 = some (24, 3, 1, 0, 0, []) ∧ kg_lk kg_cd12 24 = some (27, 22, 2, 2, 19, []) ∧ kg_lk kg_cd12 27 = some (28, 0, 0, 0, 0, []) ∧ kg_lk kg_cd12 28 = some (29, 3, 0, 0, 0, []) ∧ kg_lk kg_cd12 29 = some (32, 22, 2, 2, 19, []) ∧ kg_lk kg_cd12 32 = some (33, 0, 0, 0, 0, []) ∧ kg_lk kg_cd12 33 = some (35, 0, 10, 0, 0, []) ∧ kg_lk kg_cd12 35 = some (38, 47, 0, 0, 25, []) ∧ kg_lk kg_cd12 38 = some (39, 3, 1, 0, 0, []) ∧ kg_lk kg_cd12 39 = some (42, 22, 2, 3, 22, []) ∧ kg_lk kg_cd12 42 = some (43, 0, 0, 0, 0, []) ∧ kg_lk kg_cd12 43 = some (44, 3, 0, 0, 0, []) ∧ kg_lk kg_cd12 44 = some (47, 22, 2, 3, 22, []) ∧ kg_lk kg_cd12 47 = some (48, 0, 0, 0, 0, []) ∧ kg_lk kg_cd12 48 = some (50, 0, 10, 0, 0, []) ∧ kg_lk kg_cd12 50 = some (53, 47, 0, 0, 25, []) ∧ kg_lk kg_cd12 53 = some (54, 49, 0, 0, 0, []) := by refine ⟨?_, ?_, ?_, ?_, ?_, ?_, ?_, ?_, ?_, ?_, ?_, ?_, ?_, ?_, ?_, ?_, ?_, ?_, ?_, ?_, ?_, ?_, ?_, ?_, ?_, ?_, ?_, ?_, ?_⟩ <;> rfl
def kg_cd13 : kg_Cd := [(0, (1, 3, 0, 0, 0, [])), (1, (4, 21, 2, 0, 9, [])), (4, (6, 0, 10, 0, 0, [])), (6, (9, 17, 2, 10, 0, [])), (9, (10, 49, 0, 0, 0, [])), (10, (11, 3, 0, 0, 0, [])), (11, (14, 22, 2, 1, 15, [])), (14, (15, 3, 0, 0, 0, [])), (15, (18, 21, 2, 0, 9, [])), (18, (19, 2, 1, 0, 0, [])), (19, (20, 31, 0, 0, 0, [])), (20, (21, 3, 0, 0, 0, [])), (21, (24, 22, 2, 2, 19, [])), (24, (25, 3, 0, 0, 0, [])), (25, (28, 21, 2, 0, 9, [])), (28, (29, 2, 2, 0, 0, [])), (29, (30, 31, 0, 0, 0, [])), (30, (31, 3, 0, 0, 0, [])), (31, (34, 22, 2, 3, 22, [])), (34, (35, 3, 0, 0, 0, [])), (35, (38, 21, 2, 0, 9, [])), (38, (39, 2, 3, 0, 0, [])), (39, (40, 31, 0, 0, 0, [])), (40, (41, 3, 0, 0, 0, [])), (41, (42, 13, 0, 0, 0, [])), (42, (45, 21, 2, 0, 9, [])), (45, (46, 0, 1, 0, 0, [])), (46, (47, 7, 0, 0, 0, [])), (47, (50, 23, 2, 0, 9, [])), (50, (51, 49, 0, 0, 0, []))]
set_option maxRecDepth 100000 in
theorem kg_ok13 : kg_okc 2 false 4 cX2_add kg_cd13 = true := by decide +kernel
set_option maxRecDepth 100000 in
theorem kg_lk13 : kg_lk kg_cd13 0 = some (1, 3, 0, 0, 0, []) ∧ kg_lk kg_cd13 1 = some (4, 21, 2, 0, 9, []) ∧ kg_lk kg_cd13 4 = some (6, 0, 10, 0, 0, []) ∧ kg_lk kg_cd13 6 = some (9, 17, 2, 10, 0, []) ∧ kg_lk kg_cd13 9 = some (10, 49, 0, 0, 0, []) ∧ kg_lk kg_cd13 10 = some (11, 3, 0, 0, 0, []) ∧ kg_lk kg_cd13 11 = some (14, 22, 2, 1, 15, []) ∧ kg_lk kg_cd13 14 = some (15, 3, 0, 0, 0, []) ∧ kg_lk kg_cd13 15 = some (18, 21, 2, 0, 9, []) ∧ kg_lk kg_cd13 18 = some (19, 2, 1, 0, 0, []) ∧ kg_lk kg_cd13 19 = some (20, 31, 0, 0, 0, []) ∧ kg_lk kg_cd13 20 = some (21, 3, 0, 0, 0, []) ∧ kg_lk kg_cd13 21 = some (24, 22, 2, 2, 19, []) ∧ kg_lk kg_cd13 24 = some (25, 3, 0, 0, 0, []) ∧ kg_lk kg_cd13 25 = some (28, 21, 2, 0, 9, []) ∧ kg_lk kg_cd13 28 = some (29, 2, 2, 0, 0, []) ∧ kg_lk kg_cd13 29 = some (30, 31, 0, 0, 0, []) ∧ kg_lk kg_cd13 30 = some (31, 3, 0, 0, 0, []) ∧ kg_lk kg_cd13 31 = some (34, 22, 2, 3, 22, []) ∧ kg_lk kg_cd13 34 = some (35, 3, 0, 0, 0, []) ∧ kg_lk kg_cd13 35 = some (38, 21, 2, 0, 9, []) ∧ kg_lk kg_cd13 38 = some (39, 2, 3, 0, 0, []) ∧ kg_lk kg_cd13 39 = some (40, 31, 0, 0, 0, []) ∧ kg_lk kg_cd13 40 = some (41, 3, 0, 0, 0, []) ∧ kg_lk kg_cd13 41 = some (42, 13, 0, 0, 0, []) ∧ kg_lk kg_cd13 42 = some (45, 21, 2, 0, 9, []) ∧ kg_lk kg_cd13 45 = some (46, 0, 1, 0, 0, []) ∧ kg_lk kg_cd13 46 = some (47, 7, 0, 0, 0, []) ∧ kg_lk kg_cd13 47 = some (50, 23, 2, 0, 9, []) ∧ kg_lk kg_cd13 50 = some (51, 49, 0, 0, 0, []) := by refine ⟨?_, ?_, ?_, ?_, ?_, ?_, ?_, ?_, ?_, ?_, ?_, ?_, ?_, ?_, ?_, ?_, ?_, ?_, ?_, ?_, ?_, ?_, ?_, ?_, ?_, ?_, ?_, ?_, ?_, ?_⟩ <;> rfl
def kg_cd14 : kg_Cd := [(0, (1, 3, 0, 0, 0, [])), (1, (4, 44, 0, 0, 3, [])), (4, (5, 3, 0, 0, 0, [])), (5, (7, 0, 60, 0, 0, [])), (7, (9, 37, 2, 0, 0, [])), (9, (12, 25, 3, 0, 9, [])), (12, (13, 3, 0, 0, 0, [])), (13, (14, 0, 0, 0, 0, [])), (14, (17, 23, 3, 1, 15, [])), (17, (18, 49, 0, 0, 0, []))]
set_option maxRecDepth 100000 in
theorem kg_ok14 : kg_okc 3 true 1 cX3_init kg_cd14 = true := by decide +kernel
set_option maxRecDepth 100000 in
theorem kg_lk14 : kg_lk kg_cd14 0 = some (1, 3, 0, 0, 0, []) ∧ kg_lk kg_cd14 1 = some (4, 44, 0, 0, 3, []) ∧ kg_lk kg_cd14 4 = some (5, 3, 0, 0, 0, []) ∧ kg_lk kg_cd14 5 = some (7, 0, 60, 0, 0, []) ∧ kg_lk kg_cd14 7 = some (9, 37, 2, 0, 0, []) ∧ kg_lk kg_cd14 9 = some (12, 25, 3, 0, 9, []) ∧ kg_lk kg_cd14 12 = some (13, 3, 0, 0, 0, []) ∧ kg_lk kg_cd14 13 = some (14, 0, 0, 0, 0, []) ∧ kg_lk kg_cd14 14 = some (17, 23, 3, 1, 15, []) ∧ kg_lk kg_cd14 17 = some (18, 49, 0, 0, 0, []) := by refine ⟨?_, ?_, ?_, ?_, ?_, ?_, ?_, ?_, ?_, ?_⟩ <;> rfl
def kg_cd21 : kg_Cd := [(0, (1, 3, 0, 0, 0, [])), (1, (4, 44, 0, 0, 3, [])), (4, (5, 3, 0, 0, 0, [])), (5, (6, 0, 0, 0, 0, [])), (6, (9, 23, 4, 0, 9, [])), (9, (10, 3, 0, 0, 0, [])), (10, (11, 0, 0, 0, 0, [])), (11, (14, 23, 4, 1, 15, [])), (14, (15, 3, 0, 0, 0, [])), (15, (16, 0, 5, 0, 0, [])), (16, (18, 37, 0, 0, 0, [])), (18, (21, 25, 4, 2, 18, [])), (21, (22, 3, 0, 0, 0, [])), (22, (23, 0, 4, 0, 0, [])), (23, (25, 37, 1, 0, 0, [])), (25, (28, 25, 4, 3, 22, [])), (28, (29, 3, 0, 0, 0, [])), (29, (32, 36, 1, 0, 26, [])), (32, (33, 13, 0, 0, 0, [])), (33, (36, 43, 4, 0, 28, [])), (36, (39, 25, 4, 4, 29, [])), (39, (40, 3, 0, 0, 0, [])), (40, (42, 0, 16, 0, 0, [])), (42, (44, 37, 0, 0, 0, [])), (44, (47, 25, 4, 5, 33, [])), (47, (48, 3, 0, 0, 0, [])), (48, (51, 36, 2, 0, 36, [])), (51, (52, 13, 0, 0, 0, [])), (52, (55, 43, 11, 0, 38, [])), (55, (58, 25, 4, 6, 39, [])), (58, (59, 3, 0, 0, 0, [])), (59, (62, 36, 0, 0, 43, [])), (62, (63, 13, 0, 0, 0, [])), (63, (66, 43, 0, 0, 45, [])), (66, (69, 25, 4, 7, 46, [])), (69, (70, 3, 0, 0, 0, [])), (70, (71, 0, 4, 0, 0, [])), (71, (73, 37, 0, 0, 0, [])), (73, (76, 25, 4, 8, 50, [])), (76, (77, 3, 0, 0, 0, [])), (77, (78, 0, 0, 0, 0, [])), (78, (81, 23, 4, 9, 53, [])), (81, (82, 0, 0, 0, 0, [])), (82, (83, 4, 1, 0, 0, [])), (83, (84, 2, 1, 0, 0, [])), (84, (85, 0, 5, 0, 0, [])), (85, (88, 17, 3, 105, 0, [])), (88, (89, 3, 0, 0, 0, [])), (89, (92, 22, 4, 2, 18, [])), (92, (93, 2, 1, 0, 0, [])), (93, (96, 26, 1003, 0, 56, [])), (96, (97, 2, 1, 0, 0, [])), (97, (98, 27, 0, 0, 0, [])), (98, (99, 31, 0, 0, 0, [])), (99, (102, 6, 1, 1, 0, [])), (102, (105, 18, 0, 83, 0, [])), (105, (106, 0, 0, 0, 0, [])), (106, (107, 4, 1, 0, 0, [])), (107, (108, 2, 1, 0, 0, [])), (108, (109, 0, 4, 0, 0, [])), (109, (112, 17, 3, 125, 0, [])), (112, (113, 3, 0, 0, 0, [])), (113, (116, 22, 4, 3, 22, [])), (116, (117, 2, 1, 0, 0, [])), (117, (118, 0, 1, 0, 0, [])), (118, (119, 32, 0, 0, 0, [])), (119, (122, 6, 1, 1, 0, [])), (122, (125, 18, 0, 107, 0, [])), (125, (126, 0, 0, 0, 0, [])), (126, (127, 4, 1, 0, 0, [])), (127, (128, 2, 1, 0, 0, [])), (128, (130, 0, 16, 0, 0, [])), (130, (133, 17, 3, 146, 0, [])), (133, (134, 3, 0, 0, 0, [])), (134, (137, 22, 4, 5, 33, [])), (137, (138, 2, 1, 0, 0, [])), (138, (139, 1, 1, 0, 0, [])), (139, (140, 31, 0, 0, 0, [])), (140, (143, 6, 1, 1, 0, [])), (143, (146, 18, 0, 127, 0, [])), (146, (147, 49, 0, 0, 0, []))]
set_option maxRecDepth 100000 in
theorem kg_ok21 : kg_okc 4 true 2 cX4_init kg_cd21 = true := by decide +kernel
set_option maxRecDepth 100000 in
theorem kg_lk21 : kg_lk kg_cd21 0 = some (1, 3, 0, 0, 0, []) ∧ kg_lk kg_cd21 1 = some (4, 44, 0, 0, 3, []) ∧ kg_lk kg_cd21 4 = some (5, 3, 0, 0, 0, []) ∧ kg_lk kg_cd21 5 = some (6, 0, 0, 0, 0, []) ∧ kg_lk kg_cd21 6 = some (9, 23, 4, 0, 9, []) ∧ kg_lk kg_cd21 9 = some (10, 3, 0, 0, 0, []) ∧ kg_lk kg_cd21 10 = some (11, 0, 0, 0, 0, []) ∧ kg_lk kg_cd21 11 = some (14, 23, 4, 1, 15, []) ∧ kg_lk kg_cd21 14 = some (15, 3, 0, 0, 0, []) ∧ kg_lk kg_cd21 15 = some (16, 0, 5, 0, 0, []) ∧ kg_lk kg_cd21 16 = some (18, 37, 0, 0, 0, []) ∧ kg_lk kg_cd21 18 = some (21, 25, 4, 2, 18, []) ∧ kg_lk kg_cd21 21 = some (22, 3, 0, 0, 0, []) ∧ kg_lk kg_cd21 22 = some (23, 0, 4, 0, 0, []) ∧ kg_lk kg_cd21 23 = some (25, 37, 1, 0, 0, []) ∧ kg_lk kg_cd21 25 = some (28, 25, 4, 3, 22, []) ∧ kg_lk kg_cd21 28 = some (29, 3, 0, 0, 0, []) ∧ kg_lk kg_cd21 29 = some (32, 36, 1, 0, 26, []) ∧ kg_lk kg_cd21 32 = some (33, 13, 0, 0, 0, []) ∧ kg_lk kg_cd21 33 = some (36, 43, 4, 0, 28, []) ∧ kg_lk kg_cd21 36 = some (39, 25, 4, 4, 29, []) ∧ kg_lk kg_cd21 39 = some (40, 3, 0, 0, 0, []) ∧ kg_lk kg_cd21 40 = some (42, 0, 16, 0, 0, []) ∧ kg_lk kg_cd21 42 = some (44, 37, 0, 0, 0, []) ∧ kg_lk kg_cd21 44 = some (47, 25, 4, 5, 33, []) ∧ kg_lk kg_cd21 47 = some (48, 3, 0, 0, 0, []) ∧ kg_lk kg_cd21 48 = some (51, 36, 2, 0, 36, []) ∧ kg_lk kg_cd21 51 = some (52, 13, 0, 0, 0, []) ∧ kg_lk kg_cd21 52 = some (55, 43, 11, 0, 38, []) ∧ kg_lk kg_cd21 55 = some (58, 25, 4, 6, 39, []) ∧ kg_lk kg_cd21 58 = some (59, 3, 0, 0, 0, []) ∧ kg_lk kg_cd21 59 = some (62, 36, 0, 0, 43, []) ∧ kg_lk kg_cd21 62 = some (63, 13, 0, 0, 0, []) ∧ kg_lk kg_cd21 63 = some (66, 43, 0, 0, 45, []) ∧ kg_lk kg_cd21 66 = some (69, 25, 4, 7, 46, []) ∧ kg_lk kg_cd21 69 = some (70, 3, 0, 0, 0, []) ∧ kg_lk kg_cd21 70 = some (71, 0, 4, 0, 0, []) ∧ kg_lk kg_cd21 71 = some (73, 37, 0, 0, 0, []) ∧ kg_lk kg_cd21 73 = some (76, 25, 4, 8, 50, []) ∧ kg_lk kg_cd21 76 = some (77, 3, 0, 0, 0, []) ∧ kg_lk kg_cd21 77 = some (78, 0, 0, 0, 0, []) ∧ kg_lk kg_cd21 78 = some (81, 23, 4, 9, 53, []) ∧ kg_lk kg_cd21 81 = some (82, 0, 0, 0, 0, []) ∧ kg_lk kg_cd21 82 = some (83, 4, 1, 0, 0, []) ∧ kg_lk kg_cd21 83 = some (84, 2, 1, 0, 0, []) ∧ kg_lk kg_cd21 84 = some (85, 0, 5, 0, 0, []) ∧ kg_lk kg_cd21 85 = some (88, 17, 3, 105, 0, []) ∧ kg_lk kg_cd21 88 = some (89, 3, 0, 0, 0, []) ∧ kg_lk kg_cd21 89 = some (92, 22, 4, 2, 18, []) ∧ kg_lk kg_cd21 92 = some (93, 2, 1, 0, 0, []) ∧ kg_lk kg_cd21 93 = some (96, 26, 1003, 0, 56, []) ∧ kg_lk kg_cd21 96 = some (97, 2, 1, 0, 0, []) ∧ kg_lk kg_cd21 97 = some (98, 27, 0, 0, 0, []) ∧ kg_lk kg_cd21 98 = some (99, 31, 0, 0, 0, []) ∧ kg_lk kg_cd21 99 = some (102, 6, 1, 1, 0, []) ∧ kg_lk kg_cd21 102 = some (105, 18, 0, 83, 0, []) ∧ kg_lk kg_cd21 105 = some (106, 0, 0, 0, 0, []) ∧ kg_lk kg_cd21 106 = some (107, 4, 1, 0, 0, []) ∧ kg_lk kg_cd21 107 = some (108, 2, 1, 0, 0, []) ∧ kg_lk kg_cd21 108 = some (109, 0, 4, 0, 0, []) ∧ kg_lk kg_cd21 109 = some (112, 17, 3, 125, 0, []) ∧ kg_lk kg_cd21 112 = some (113, 3, 0, 0, 0, []) ∧ kg_lk kg_cd21 113 = some (116, 22, 4, 3, 22, []) ∧ kg_lk kg_cd21 116 = some (117, 2, 1, 0, 0, []) ∧ kg_lk kg_cd21 117 = some (118, 0, 1, 0, 0, []) ∧ kg_lk kg_cd21 118 = some (119, 32, 0, 0, 0, []) ∧ kg_lk kg_cd21 119 = some (122, 6, 1, 1, 0, []) ∧ kg_lk kg_cd21 122 = some (125, 18, 0, 107, 0, []) ∧ kg_lk kg_cd21 125 = some (126, 0, 0, 0, 0, []) ∧ kg_lk kg_cd21 126 = some (127, 4, 1, 0, 0, []) ∧ kg_lk kg_cd21 127 = some (128, 2, 1, 0, 0, []) ∧ kg_lk kg_cd21 128 = some (130, 0, 16, 0, 0, []) ∧ kg_lk kg_cd21 130 = some (133, 17, 3, 146, 0, []) ∧ kg_lk kg_cd21 133 = some (134, 3, 0, 0, 0, []) ∧ kg_lk kg_cd21 134 = some (137, 22, 4, 5, 33, []) ∧ kg_lk kg_cd21 137 = some (138, 2, 1, 0, 0, []) ∧ kg_lk kg_cd21 138 = some (139, 1, 1, 0, 0, []) ∧ kg_lk kg_cd21 139 = some (140, 31, 0, 0, 0, []) ∧ kg_lk kg_cd21 140 = some (143, 6, 1, 1, 0, []) ∧ kg_lk kg_cd21 143 = some (146, 18, 0, 127, 0, []) ∧ kg_lk kg_cd21 146 = some (147, 49, 0, 0, 0, []) := by refine ⟨?_, ?_, ?_, ?_, ?_, ?_, ?_, ?_, ?_, ?_, ?_, ?_, ?_, ?_, ?_, ?_, ?_, ?_, ?_, ?_, ?_, ?_, ?_, ?_, ?_, ?_, ?_, ?_, ?_, ?_, ?_, ?_, ?_, ?_, ?_, ?_, ?_, ?_, ?_, ?_, ?_, ?_, ?_, ?_, ?_, ?_, ?_, ?_, ?_, ?_, ?_, ?_, ?_, ?_, ?_, ?_, ?_, ?_, ?_, ?_, ?_, ?_, ?_, ?_, ?_, ?_, ?_, ?_, ?_, ?_, ?_, ?_, ?_, ?_, ?_, ?_, ?_, ?_, ?_, ?_, ?_⟩ <;> rfl
def kg_cd22 : kg_Cd := [(0, (1, 3, 0, 0, 0, [])), (1, (2, 3, 1, 0, 0, [])), (2, (5, 21, 4, 0, 9, [])), (5, (8, 23, 4, 0, 9, [])), (8, (9, 3, 0, 0, 0, [])), (9, (10, 3, 1, 0, 0, [])), (10, (13, 21, 4, 1, 15, [])), (13, (16, 23, 4, 1, 15, [])), (16, (17, 3, 1, 0, 0, [])), (17, (20, 22, 4, 2, 18, [])), (20, (21, 0, 0, 0, 0, [])), (21, (22, 3, 0, 0, 0, [])), (22, (25, 22, 4, 2, 18, [])), (25, (26, 0, 0, 0, 0, [])), (26, (27, 0, 5, 0, 0, [])), (27, (30, 47, 0, 0, 59, [])), (30, (31, 0, 0, 0, 0, [])), (31, (32, 4, 2, 0, 0, [])), (32, (33, 2, 2, 0, 0, [])), (33, (34, 0, 4, 0, 0, [])), (34, (37, 17, 3, 55, 0, [])), (37, (38, 3, 0, 0, 0, [])), (38, (41, 22, 4, 3, 22, [])), (41, (42, 2, 2, 0, 0, [])), (42, (43, 3, 1, 0, 0, [])), (43, (46, 22, 4, 3, 22, [])), (46, (47, 2, 2, 0, 0, [])), (47, (48, 28, 0, 0, 0, [])), (48, (49, 32, 0, 0, 0, [])), (49, (52, 6, 2, 1, 0, [])), (52, (55, 18, 0, 32, 0, [])), (55, (56, 3, 0, 0, 0, [])), (56, (59, 22, 4, 4, 29, [])), (59, (60, 3, 1, 0, 0, [])), (60, (63, 22, 4, 4, 29, [])), (63, (66, 39, 5, 2, 65, [])), (66, (67, 3, 1, 0, 0, [])), (67, (70, 22, 4, 5, 33, [])), (70, (71, 0, 0, 0, 0, [])), (71, (72, 3, 0, 0, 0, [])), (72, (75, 22, 4, 5, 33, [])), (75, (76, 0, 0, 0, 0, [])), (76, (78, 0, 16, 0, 0, [])), (78, (81, 47, 0, 0, 59, [])), (81, (82, 3, 0, 0, 0, [])), (82, (85, 22, 4, 6, 39, [])), (85, (86, 3, 1, 0, 0, [])), (86, (89, 22, 4, 6, 39, [])), (89, (92, 39, 12, 2, 69, [])), (92, (93, 3, 0, 0, 0, [])), (93, (96, 22, 4, 7, 46, [])), (96, (97, 3, 1, 0, 0, [])), (97, (100, 22, 4, 7, 46, [])), (100, (103, 39, 1, 2, 72, [])), (103, (104, 49, 0, 0, 0, []))]
set_option maxRecDepth 100000 in
theorem kg_ok22 : kg_okc 4 false 3 cX4_copyFrom kg_cd22 = true := by decide +kernel
set_option maxRecDepth 100000 in
theorem kg_lk22 : kg_lk kg_cd22 0 = some (1, 3, 0, 0, 0, []) ∧ kg_lk kg_cd22 1 = some (2, 3, 1, 0, 0, []) ∧ kg_lk kg_cd22 2 = some (5, 21, 4, 0, 9, []) ∧ kg_lk kg_cd22 5 = some (8, 23, 4, 0, 9, []) ∧ kg_lk kg_cd22 8 = some (9, 3, 0, 0, 0, []) ∧ kg_lk kg_cd22 9 = some (10, 3, 1, 0, 0, []) ∧ kg_lk kg_cd22 10 = some (13, 21, 4, 1, 15, []) ∧ kg_lk kg_cd22 13 = some (16, 23, 4, 1, 15, []) ∧ kg_lk kg_cd22 16 = some (17, 3, 1, 0, 0, []) ∧ kg_lk kg_cd22 17 = some (20, 22, 4, 2, 18, []) ∧ kg_lk kg_cd22 20 = some (21, 0, 0, 0, 0, []) ∧ kg_lk kg_cd22 21 = some (22, 3, 0, 0, 0, []) ∧ kg_lk kg_cd22 22 = some (25, 22, 4, 2, 18, []) ∧ kg_lk kg_cd22 25 = some (26, 0, 0, 0, 0, []) ∧ kg_lk kg_cd22 26 = some (27, 0, 5, 0, 0, []) ∧ kg_lk kg_cd22 27 = some (30, 47, 0, 0, 59, []) ∧ kg_lk kg_cd22 30 = some (31, 0, 0, 0, 0, []) ∧ kg_lk kg_cd22 31 = some (32, 4, 2, 0, 0, []) ∧ kg_lk kg_cd22 32 = some (33, 2, 2, 0, 0, []) ∧ kg_lk kg_cd22 33 = some (34, 0, 4, 0, 0, []) ∧ kg_lk kg_cd22 34 = some (37, 17, 3, 55, 0, []) ∧ kg_lk kg_cd22 37 = some (38, 3, 0, 0, 0, []) ∧ kg_lk kg_cd22 38 = some (41, 22, 4, 3, 22, []) ∧ kg_lk kg_cd22 41 = some (42, 2, 2, 0, 0, []) ∧ kg_lk kg_cd22 42 = some (43, 3, 1, 0, 0, []) ∧ kg_lk kg_cd22 43 = some (46, 22, 4, 3, 22, []) ∧ kg_lk kg_cd22 46 = some (47, 2, 2, 0, 0, []) ∧ kg_lk kg_cd22 47 = some (48, 28, 0, 0, 0, []) ∧ kg_lk kg_cd22 48 = some (49, 32, 0, 0, 0, []) ∧ kg_lk kg_cd22 49 = some (52, 6, 2, 1, 0, []) ∧ kg_lk kg_cd22 52 = some (55, 18, 0, 32, 0, []) ∧ kg_lk kg_cd22 55 = some (56, 3, 0, 0, 0, []) ∧ kg_lk kg_cd22 56 = some (59, 22, 4, 4, 29, []) ∧ kg_lk kg_cd22 59 = some (60, 3, 1, 0, 0, []) ∧ kg_lk kg_cd22 60 = some (63, 22, 4, 4, 29, []) ∧ kg_lk kg_cd22 63 = some (66, 39, 5, 2, 65, []) ∧ kg_lk kg_cd22 66 = some (67, 3, 1, 0, 0, []) ∧ kg_lk kg_cd22 67 = some (70, 22, 4, 5, 33, []) ∧ kg_lk kg_cd22 70 = some (71, 0, 0, 0, 0, []) ∧ kg_lk kg_cd22 71 = some (72, 3, 0, 0, 0, []) ∧ kg_lk kg_cd22 72 = some (75, 22, 4, 5, 33, []) ∧ kg_lk kg_cd22 75 = some (76, 0, 0, 0, 0, []) ∧ kg_lk kg_cd22 76 = some (78, 0, 16, 0, 0, []) ∧ kg_lk kg_cd22 78 = some (81, 47, 0, 0, 59, []) ∧ kg_lk kg_cd22 81 = some (82, 3, 0, 0, 0, []) ∧ kg_lk kg_cd22 82 = some (85, 22, 4, 6, 39, []) ∧ kg_lk kg_cd22 85 = some (86, 3, 1, 0, 0, []) ∧ kg_lk kg_cd22 86 = some (89, 22, 4, 6, 39, []) ∧ kg_lk kg_cd22 89 = some (92, 39, 12, 2, 69, []) ∧ kg_lk kg_cd22 92 = some (93, 3, 0, 0, 0, []) ∧ kg_lk kg_cd22 93 = some (96, 22, 4, 7, 46, []) ∧ kg_lk kg_cd22 96 = some (97, 3, 1, 0, 0, []) ∧ kg_lk kg_cd22 97 = some (100, 22, 4, 7, 46, []) ∧ kg_lk kg_cd22 100 = some (103, 39, 1, 2, 72, []) ∧ kg_lk kg_cd22 103 = some (104, 49, 0, 0, 0, []) := by refine ⟨?_, ?_, ?_, ?_, ?_, ?_, ?_, ?_, ?_, ?_, ?_, ?_, ?_, ?_, ?_, ?_, ?_, ?_, ?_, ?_, ?_, ?_, ?_, ?_, ?_, ?_, ?_, ?_, ?_, ?_, ?_, ?_, ?_, ?_, ?_, ?_, ?_, ?_, ?_, ?_, ?_, ?_, ?_, ?_, ?_, ?_, ?_, ?_, ?_, ?_, ?_, ?_, ?_, ?_, ?_⟩ <;> rfl
def kg_cd23 : kg_Cd := [(0, (1, 0, 0, 0, 0, [])), (1, (2, 4, 1, 0, 0, [])), (2, (3, 0, 0, 0, 0, [])), (3, (4, 4, 2, 0, 0, [])), (4, (5, 2, 2, 0, 0, [])), (5, (6, 0, 4, 0, 0, [])), (6, (9, 17, 3, 27, 0, [])), (9, (10, 3, 0, 0, 0, [])), (10, (13, 22, 4, 3, 22, [])), (13, (14, 2, 2, 0, 0, [])), (14, (15, 28, 0, 0, 0, [])), (15, (18, 16, 0, 21, 0, [])), (18, (21, 6, 1, 1, 0, [])), (21, (24, 6, 2, 1, 0, [])), (24, (27, 18, 0, 4, 0, [])), (27, (28, 2, 1, 0, 0, [])), (28, (29, 48, 0, 0, 0, []))]
set_option maxRecDepth 100000 in
theorem kg_ok23 : kg_okc 4 false 3 cX4_nodesUp kg_cd23 = true := by decide +kernel
set_option maxRecDepth 100000 in
theorem kg_lk23 : kg_lk kg_cd23 0 = some (1, 0, 0, 0, 0, []) ∧ kg_lk kg_cd23 1 = some (2, 4, 1, 0, 0, []) ∧ kg_lk kg_cd23 2 = some (3, 0, 0, 0, 0, []) ∧ kg_lk kg_cd23 3 = some (4, 4, 2, 0, 0, []) ∧ kg_lk kg_cd23 4 = some (5, 2, 2, 0, 0, []) ∧ kg_lk kg_cd23 5 = some (6, 0, 4, 0, 0, []) ∧ kg_lk kg_cd23 6 = some (9, 17, 3, 27, 0, []) ∧ kg_lk kg_cd23 9 = some (10, 3, 0, 0, 0, []) ∧ kg_lk kg_cd23 10 = some (13, 22, 4, 3, 22, []) ∧ kg_lk kg_cd23 13 = some (14, 2, 2, 0, 0, []) ∧ kg_lk kg_cd23 14 = some (15, 28, 0, 0, 0, []) ∧ kg_lk kg_cd23 15 = some (18, 16, 0, 21, 0, []) ∧ kg_lk kg_cd23 18 = some (21, 6, 1, 1, 0, []) ∧ kg_lk kg_cd23 21 = some (24, 6, 2, 1, 0, []) ∧ kg_lk kg_cd23 24 = some (27, 18, 0, 4, 0, []) ∧ kg_lk kg_cd23 27 = some (28, 2, 1, 0, 0, []) ∧ kg_lk kg_cd23 28 = some (29, 48, 0, 0, 0, []) := by refine ⟨?_, ?_, ?_, ?_, ?_, ?_, ?_, ?_, ?_, ?_, ?_, ?_, ?_, ?_, ?_, ?_, ?_⟩ <;> rfl
def kg_cd24 : kg_Cd := [(0, (1, 3, 0, 0, 0, [])), (1, (2, 13, 0, 0, 0, [])), (2, (5, 21, 4, 1, 15, [])), (5, (6, 0, 1, 0, 0, [])), (6, (7, 7, 0, 0, 0, [])), (7, (10, 23, 4, 1, 15, [])), (10, (11, 3, 0, 0, 0, [])), (11, (14, 22, 4, 4, 29, [])), (14, (15, 0, 4, 0, 0, [])), (15, (16, 2, 2, 0, 0, [])), (16, (19, 41, 64, 2, 75, [])), (19, (20, 3, 0, 0, 0, [])), (20, (23, 21, 4, 1, 15, [])), (23, (24, 2, 3, 0, 0, [])), (24, (25, 3, 0, 0, 0, [])), (25, (28, 21, 4, 0, 9, [])), (28, (31, 39, 6, 5, 79, [])), (31, (32, 3, 0, 0, 0, [])), (32, (33, 2, 1, 0, 0, [])), (33, (34, 3, 0, 0, 0, [])), (34, (37, 22, 4, 2, 18, [])), (37, (38, 0, 0, 0, 0, [])), (38, (39, 27, 0, 0, 0, [])), (39, (42, 39, 25, 3, 83, [])), (42, (43, 0, 0, 0, 0, [])), (43, (45, 4, 4, 0, 0, [])), (45, (47, 2, 4, 0, 0, [])), (47, (48, 3, 0, 0, 0, [])), (48, (51, 21, 4, 9, 53, [])), (51, (54, 17, 3, 87, 0, [])), (54, (55, 3, 0, 0, 0, [])), (55, (58, 22, 4, 4, 29, [])), (58, (59, 3, 0, 0, 0, [])), (59, (62, 22, 4, 8, 50, [])), (62, (64, 2, 4, 0, 0, [])), (64, (65, 27, 0, 0, 0, [])), (65, (66, 2, 2, 0, 0, [])), (66, (69, 41, 64, 2, 75, [])), (69, (70, 3, 0, 0, 0, [])), (70, (73, 21, 4, 1, 15, [])), (73, (74, 2, 3, 0, 0, [])), (74, (75, 3, 0, 0, 0, [])), (75, (78, 21, 4, 0, 9, [])), (78, (81, 39, 6, 5, 79, [])), (81, (84, 6, 4, 1, 0, [])), (84, (87, 18, 0, 45, 0, [])), (87, (88, 3, 0, 0, 0, [])), (88, (91, 21, 4, 9, 53, [])), (91, (92, 48, 0, 0, 0, []))]
set_option maxRecDepth 100000 in
theorem kg_ok24 : kg_okc 4 false 5 cX4_spread kg_cd24 = true := by decide +kernel
set_option maxRecDepth 100000 in
theorem kg_lk24 : kg_lk kg_cd24 0 = some (1, 3, 0, 0, 0, []) ∧ kg_lk kg_cd24 1 = some (2, 13, 0, 0, 0, []) ∧ kg_lk kg_cd24 2 = some (5, 21, 4, 1, 15, []) ∧ kg_lk kg_cd24 5 = some (6, 0, 1, 0, 0, []) ∧ kg_lk kg_cd24 6 = some (7, 7, 0, 0, 0, []) ∧ kg_lk kg_cd24 7 = some (10, 23, 4, 1, 15, []) ∧ kg_lk kg_cd24 10 = some (11, 3, 0, 0, 0, []) ∧ kg_lk kg_cd24 11 = some (14, 22, 4, 4, 29, []) ∧ kg_lk kg_cd24 14 = some (15, 0, 4, 0, 0, []) ∧ kg_lk kg_cd24 15 = some (16, 2, 2, 0, 0, []) ∧ kg_lk kg_cd24 16 = some (19, 41, 64, 2, 75, []) ∧ kg_lk kg_cd24 19 = some (20, 3, 0, 0, 0, []) ∧ kg_lk kg_cd24 20 = some (23, 21, 4, 1, 15, []) ∧ kg_lk kg_cd24 23 = some (24, 2, 3, 0, 0, []) ∧ kg_lk kg_cd24 24 = some (25, 3, 0, 0, 0, []) ∧ kg_lk kg_cd24 25 = some (28, 21, 4, 0, 9, []) ∧ kg_lk kg_cd24 28 = some (31, 39, 6, 5, 79, []) ∧ kg_lk kg_cd24 31 = some (32, 3, 0, 0, 0, []) ∧ kg_lk kg_cd24 32 = some (33, 2, 1, 0, 0, []) ∧ kg_lk kg_cd24 33 = some (34, 3, 0, 0, 0, []) ∧ kg_lk kg_cd24 34 = some (37, 22, 4, 2, 18, []) ∧ kg_lk kg_cd24 37 = some (38, 0, 0, 0, 0, []) ∧ kg_lk kg_cd24 38 = some (39, 27, 0, 0, 0, []) ∧ kg_lk kg_cd24 39 = some (42, 39, 25, 3, 83, []) ∧ kg_lk kg_cd24 42 = some (43, 0, 0, 0, 0, []) ∧ kg_lk kg_cd24 43 = some (45, 4, 4, 0, 0, []) ∧ kg_lk kg_cd24 45 = some (47, 2, 4, 0, 0, []) ∧ kg_lk kg_cd24 47 = some (48, 3, 0, 0, 0, []) ∧ kg_lk kg_cd24 48 = some (51, 21, 4, 9, 53, []) ∧ kg_lk kg_cd24 51 = some (54, 17, 3, 87, 0, []) ∧ kg_lk kg_cd24 54 = some (55, 3, 0, 0, 0, []) ∧ kg_lk kg_cd24 55 = some (58, 22, 4, 4, 29, []) ∧ kg_lk kg_cd24 58 = some (59, 3, 0, 0, 0, []) ∧ kg_lk kg_cd24 59 = some (62, 22, 4, 8, 50, []) ∧ kg_lk kg_cd24 62 = some (64, 2, 4, 0, 0, []) ∧ kg_lk kg_cd24 64 = some (65, 27, 0, 0, 0, []) ∧ kg_lk kg_cd24 65 = some (66, 2, 2, 0, 0, []) ∧ kg_lk kg_cd24 66 = some (69, 41, 64, 2, 75, []) ∧ kg_lk kg_cd24 69 = some (70, 3, 0, 0, 0, []) ∧ kg_lk kg_cd24 70 = some (73, 21, 4, 1, 15, []) ∧ kg_lk kg_cd24 73 = some (74, 2, 3, 0, 0, []) ∧ kg_lk kg_cd24 74 = some (75, 3, 0, 0, 0, []) ∧ kg_lk kg_cd24 75 = some (78, 21, 4, 0, 9, []) ∧ kg_lk kg_cd24 78 = some (81, 39, 6, 5, 79, []) ∧ kg_lk kg_cd24 81 = some (84, 6, 4, 1, 0, []) ∧ kg_lk kg_cd24 84 = some (87, 18, 0, 45, 0, []) ∧ kg_lk kg_cd24 87 = some (88, 3, 0, 0, 0, []) ∧ kg_lk kg_cd24 88 = some (91, 21, 4, 9, 53, []) ∧ kg_lk kg_cd24 91 = some (92, 48, 0, 0, 0, []) := by refine ⟨?_, ?_, ?_, ?_, ?_, ?_, ?_, ?_, ?_, ?_, ?_, ?_, ?_, ?_, ?_, ?_, ?_, ?_, ?_, ?_, ?_, ?_, ?_, ?_, ?_, ?_, ?_, ?_, ?_, ?_, ?_, ?_, ?_, ?_, ?_, ?_, ?_, ?_, ?_, ?_, ?_, ?_, ?_, ?_, ?_, ?_, ?_, ?_, ?_⟩ <;> rfl
def kg_cd25 : kg_Cd := [(0, (1, 3, 0, 0, 0, [])), (1, (2, 0, 0, 0, 0, [])), (2, (5, 23, 4, 9, 53, [])), (5, (6, 0, 0, 0, 0, [])), (6, (7, 4, 3, 0, 0, [])), (7, (8, 2, 3, 0, 0, [])), (8, (9, 0, 4, 0, 0, [])), (9, (12, 17, 3, 64, 0, [])), (12, (13, 2, 1, 0, 0, [])), (13, (14, 2, 3, 0, 0, [])), (14, (15, 7, 0, 0, 0, [])), (15, (16, 0, 4, 0, 0, [])), (16, (17, 10, 0, 0, 0, [])), (17, (19, 4, 4, 0, 0, [])), (19, (20, 3, 0, 0, 0, [])), (20, (23, 22, 4, 3, 22, [])), (23, (25, 2, 4, 0, 0, [])), (25, (26, 28, 0, 0, 0, [])), (26, (29, 16, 0, 58, 0, [])), (29, (30, 3, 0, 0, 0, [])), (30, (33, 21, 4, 9, 53, [])), (33, (34, 2, 2, 0, 0, [])), (34, (37, 17, 3, 58, 0, [])), (37, (38, 3, 0, 0, 0, [])), (38, (41, 22, 4, 8, 50, [])), (41, (42, 3, 0, 0, 0, [])), (42, (45, 21, 4, 9, 53, [])), (45, (47, 2, 4, 0, 0, [])), (47, (48, 31, 0, 0, 0, [])), (48, (49, 3, 0, 0, 0, [])), (49, (50, 13, 0, 0, 0, [])), (50, (53, 21, 4, 9, 53, [])), (53, (54, 0, 1, 0, 0, [])), (54, (55, 7, 0, 0, 0, [])), (55, (58, 23, 4, 9, 53, [])), (58, (61, 6, 3, 1, 0, [])), (61, (64, 18, 0, 7, 0, [])), (64, (65, 49, 0, 0, 0, []))]
set_option maxRecDepth 100000 in
theorem kg_ok25 : kg_okc 4 false 5 cX4_reach kg_cd25 = true := by decide +kernel
set_option maxRecDepth 100000 in
theorem kg_lk25 : kg_lk kg_cd25 0 = some (1, 3, 0, 0, 0, []) ∧ kg_lk kg_cd25 1 = some (2, 0, 0, 0, 0, []) ∧ kg_lk kg_cd25 2 = some (5, 23, 4, 9, 53, []) ∧ kg_lk kg_cd25 5 = some (6, 0, 0, 0, 0, []) ∧ kg_lk kg_cd25 6 = some (7, 4, 3, 0, 0, []) ∧ kg_lk kg_cd25 7 = some (8, 2, 3, 0, 0, []) ∧ kg_lk kg_cd25 8 = some (9, 0, 4, 0, 0, []) ∧ kg_lk kg_cd25 9 = some (12, 17, 3, 64, 0, []) ∧ kg_lk kg_cd25 12 = some (13, 2, 1, 0, 0, []) ∧ kg_lk kg_cd25 13 = some (14, 2, 3, 0, 0, []) ∧ kg_lk kg_cd25 14 = some (15, 7, 0, 0, 0, []) ∧ kg_lk kg_cd25 15 = some (16, 0, 4, 0, 0, []) ∧ kg_lk kg_cd25 16 = some (17, 10, 0, 0, 0, []) ∧ kg_lk kg_cd25 17 = some (19, 4, 4, 0, 0, []) ∧ kg_lk kg_cd25 19 = some (20, 3, 0, 0, 0, []) ∧ kg_lk kg_cd25 20 = some (23, 22, 4, 3, 22, []) ∧ kg_lk kg_cd25 23 = some (25, 2, 4, 0, 0, []) ∧ kg_lk kg_cd25 25 = some (26, 28, 0, 0, 0, []) ∧ kg_lk kg_cd25 26 = some (29, 16, 0, 58, 0, []) ∧ kg_lk kg_cd25 29 = some (30, 3, 0, 0, 0, []) ∧ kg_lk kg_cd25 30 = some (33, 21, 4, 9, 53, []) ∧ kg_lk kg_cd25 33 = some (34, 2, 2, 0, 0, []) ∧ kg_lk kg_cd25 34 = some (37, 17, 3, 58, 0, []) ∧ kg_lk kg_cd25 37 = some (38, 3, 0, 0, 0, []) ∧ kg_lk kg_cd25 38 = some (41, 22, 4, 8, 50, []) ∧ kg_lk kg_cd25 41 = some (42, 3, 0, 0, 0, []) ∧ kg_lk kg_cd25 42 = some (45, 21, 4, 9, 53, []) ∧ kg_lk kg_cd25 45 = some (47, 2, 4, 0, 0, []) ∧ kg_lk kg_cd25 47 = some (48, 31, 0, 0, 0, []) ∧ kg_lk kg_cd25 48 = some (49, 3, 0, 0, 0, []) ∧ kg_lk kg_cd25 49 = some (50, 13, 0, 0, 0, []) ∧ kg_lk kg_cd25 50 = some (53, 21, 4, 9, 53, []) ∧ kg_lk kg_cd25 53 = some (54, 0, 1, 0, 0, []) ∧ kg_lk kg_cd25 54 = some (55, 7, 0, 0, 0, []) ∧ kg_lk kg_cd25 55 = some (58, 23, 4, 9, 53, []) ∧ kg_lk kg_cd25 58 = some (61, 6, 3, 1, 0, []) ∧ kg_lk kg_cd25 61 = some (64, 18, 0, 7, 0, []) ∧ kg_lk kg_cd25 64 = some (65, 49, 0, 0, 0, []) := by refine ⟨?_, ?_, ?_, ?_, ?_, ?_, ?_, ?_, ?_, ?_, ?_, ?_, ?_, ?_, ?_, ?_, ?_, ?_, ?_, ?_, ?_, ?_, ?_, ?_, ?_, ?_, ?_, ?_, ?_, ?_, ?_, ?_, ?_, ?_, ?_, ?_, ?_, ?_⟩ <;> rfl
def kg_cd26 : kg_Cd := [(0, (1, 3, 0, 0, 0, [])), (1, (2, 2, 1, 0, 0, [])), (2, (3, 3, 0, 0, 0, [])), (3, (6, 22, 4, 2, 18, [])), (6, (7, 0, 1, 0, 0, [])), (7, (8, 27, 0, 0, 0, [])), (8, (11, 39, 25, 3, 83, [])), (11, (12, 2, 1, 0, 0, [])), (12, (13, 4, 3, 0, 0, [])), (13, (14, 0, 0, 0, 0, [])), (14, (16, 4, 4, 0, 0, [])), (16, (18, 2, 4, 0, 0, [])), (18, (19, 3, 0, 0, 0, [])), (19, (22, 21, 4, 9, 53, [])), (22, (25, 17, 3, 60, 0, [])), (25, (26, 3, 0, 0, 0, [])), (26, (27, 3, 0, 0, 0, [])), (27, (30, 22, 4, 8, 50, [])), (30, (32, 2, 4, 0, 0, [])), (32, (33, 27, 0, 0, 0, [])), (33, (34, 2, 2, 0, 0, [])), (34, (37, 39, 27, 3, 87, [])), (37, (38, 3, 0, 0, 0, [])), (38, (39, 2, 3, 0, 0, [])), (39, (40, 2, 2, 0, 0, [])), (40, (43, 39, 27, 3, 87, [])), (43, (46, 17, 5, 54, 0, [])), (46, (47, 3, 0, 0, 0, [])), (47, (50, 22, 4, 8, 50, [])), (50, (52, 2, 4, 0, 0, [])), (52, (53, 27, 0, 0, 0, [])), (53, (54, 4, 3, 0, 0, [])), (54, (57, 6, 4, 1, 0, [])), (57, (60, 18, 0, 16, 0, [])), (60, (61, 2, 3, 0, 0, [])), (61, (62, 48, 0, 0, 0, []))]
set_option maxRecDepth 100000 in
theorem kg_ok26 : kg_okc 4 false 5 cX4_newestReached kg_cd26 = true := by decide +kernel
set_option maxRecDepth 100000 in
theorem kg_lk26 : kg_lk kg_cd26 0 = some (1, 3, 0, 0, 0, []) ∧ kg_lk kg_cd26 1 = some (2, 2, 1, 0, 0, []) ∧ kg_lk kg_cd26 2 = some (3, 3, 0, 0, 0, []) ∧ kg_lk kg_cd26 3 = some (6, 22, 4, 2, 18, []) ∧ kg_lk kg_cd26 6 = some (7, 0, 1, 0, 0, []) ∧ kg_lk kg_cd26 7 = some (8, 27, 0, 0, 0, []) ∧ kg_lk kg_cd26 8 = some (11, 39, 25, 3, 83, []) ∧ kg_lk kg_cd26 11 = some (12, 2, 1, 0, 0, []) ∧ kg_lk kg_cd26 12 = some (13, 4, 3, 0, 0, []) ∧ kg_lk kg_cd26 13 = some (14, 0, 0, 0, 0, []) ∧ kg_lk kg_cd26 14 = some (16, 4, 4, 0, 0, []) ∧ kg_lk kg_cd26 16 = some (18, 2, 4, 0, 0, []) ∧ kg_lk kg_cd26 18 = some (19, 3, 0, 0, 0, []) ∧ kg_lk kg_cd26 19 = some (22, 21, 4, 9, 53, []) ∧ kg_lk kg_cd26 22 = some (25, 17, 3, 60, 0, []) ∧ kg_lk kg_cd26 25 = some (26, 3, 0, 0, 0, []) ∧ kg_lk kg_cd26 26 = some (27, 3, 0, 0, 0, []) ∧ kg_lk kg_cd26 27 = some (30, 22, 4, 8, 50, []) ∧ kg_lk kg_cd26 30 = some (32, 2, 4, 0, 0, []) ∧ kg_lk kg_cd26 32 = some (33, 27, 0, 0, 0, []) ∧ kg_lk kg_cd26 33 = some (34, 2, 2, 0, 0, []) ∧ kg_lk kg_cd26 34 = some (37, 39, 27, 3, 87, []) ∧ kg_lk kg_cd26 37 = some (38, 3, 0, 0, 0, []) ∧ kg_lk kg_cd26 38 = some (39, 2, 3, 0, 0, []) ∧ kg_lk kg_cd26 39 = some (40, 2, 2, 0, 0, []) ∧ kg_lk kg_cd26 40 = some (43, 39, 27, 3, 87, []) ∧ kg_lk kg_cd26 43 = some (46, 17, 5, 54, 0, []) ∧ kg_lk kg_cd26 46 = some (47, 3, 0, 0, 0, []) ∧ kg_lk kg_cd26 47 = some (50, 22, 4, 8, 50, []) ∧ kg_lk kg_cd26 50 = some (52, 2, 4, 0, 0, []) ∧ kg_lk kg_cd26 52 = some (53, 27, 0, 0, 0, []) ∧ kg_lk kg_cd26 53 = some (54, 4, 3, 0, 0, []) ∧ kg_lk kg_cd26 54 = some (57, 6, 4, 1, 0, []) ∧ kg_lk kg_cd26 57 = some (60, 18, 0, 16, 0, []) ∧ kg_lk kg_cd26 60 = some (61, 2, 3, 0, 0, []) ∧ kg_lk kg_cd26 61 = some (62, 48, 0, 0, 0, []) := by refine ⟨?_, ?_, ?_, ?_, ?_, ?_, ?_, ?_, ?_, ?_, ?_, ?_, ?_, ?_, ?_, ?_, ?_, ?_, ?_, ?_, ?_, ?_, ?_, ?_, ?_, ?_, ?_, ?_, ?_, ?_, ?_, ?_, ?_, ?_, ?_, ?_⟩ <;> rfl
def kg_cd27 : kg_Cd := [(0, (1, 3, 0, 0, 0, [])), (1, (4, 22, 4, 4, 29, [])), (4, (7, 22, 1, 0, 94, [])), (7, (8, 2, 1, 0, 0, [])), (8, (9, 2, 2, 0, 0, [])), (9, (12, 41, 64, 2, 75, [])), (12, (13, 27, 0, 0, 0, [])), (13, (14, 48, 0, 0, 0, []))]
set_option maxRecDepth 100000 in
theorem kg_ok27 : kg_okc 4 false 3 cX4_stampOf kg_cd27 = true := by decide +kernel
set_option maxRecDepth 100000 in
theorem kg_lk27 : kg_lk kg_cd27 0 = some (1, 3, 0, 0, 0, []) ∧ kg_lk kg_cd27 1 = some (4, 22, 4, 4, 29, []) ∧ kg_lk kg_cd27 4 = some (7, 22, 1, 0, 94, []) ∧ kg_lk kg_cd27 7 = some (8, 2, 1, 0, 0, []) ∧ kg_lk kg_cd27 8 = some (9, 2, 2, 0, 0, []) ∧ kg_lk kg_cd27 9 = some (12, 41, 64, 2, 75, []) ∧ kg_lk kg_cd27 12 = some (13, 27, 0, 0, 0, []) ∧ kg_lk kg_cd27 13 = some (14, 48, 0, 0, 0, []) := by refine ⟨?_, ?_, ?_, ?_, ?_, ?_, ?_, ?_⟩ <;> rfl
def kg_cd28 : kg_Cd := [(0, (1, 0, 0, 0, 0, [])), (1, (2, 4, 3, 0, 0, [])), (2, (3, 2, 3, 0, 0, [])), (3, (4, 3, 0, 0, 0, [])), (4, (7, 21, 4, 9, 53, [])), (7, (10, 17, 3, 38, 0, [])), (10, (11, 3, 0, 0, 0, [])), (11, (12, 3, 0, 0, 0, [])), (12, (15, 22, 4, 8, 50, [])), (15, (16, 2, 3, 0, 0, [])), (16, (17, 27, 0, 0, 0, [])), (17, (18, 2, 2, 0, 0, [])), (18, (21, 39, 27, 3, 87, [])), (21, (22, 3, 0, 0, 0, [])), (22, (23, 2, 1, 0, 0, [])), (23, (24, 2, 2, 0, 0, [])), (24, (27, 39, 27, 3, 87, [])), (27, (30, 17, 0, 32, 0, [])), (30, (31, 0, 1, 0, 0, [])), (31, (32, 48, 0, 0, 0, [])), (32, (35, 6, 3, 1, 0, [])), (35, (38, 18, 0, 2, 0, [])), (38, (39, 0, 0, 0, 0, [])), (39, (40, 48, 0, 0, 0, []))]
set_option maxRecDepth 100000 in
theorem kg_ok28 : kg_okc 4 false 4 cX4_reachedDiffer kg_cd28 = true := by decide +kernel
set_option maxRecDepth 100000 in
theorem kg_lk28 : kg_lk kg_cd28 0 = some (1, 0, 0, 0, 0, []) ∧ kg_lk kg_cd28 1 = some (2, 4, 3, 0, 0, []) ∧ kg_lk kg_cd28 2 = some (3, 2, 3, 0, 0, []) ∧ kg_lk kg_cd28 3 = some (4, 3, 0, 0, 0, []) ∧ kg_lk kg_cd28 4 = some (7, 21, 4, 9, 53, []) ∧ kg_lk kg_cd28 7 = some (10, 17, 3, 38, 0, []) ∧ kg_lk kg_cd28 10 = some (11, 3, 0, 0, 0, []) ∧ kg_lk kg_cd28 11 = some (12, 3, 0, 0, 0, []) ∧ kg_lk kg_cd28 12 = some (15, 22, 4, 8, 50, []) ∧ kg_lk kg_cd28 15 = some (16, 2, 3, 0, 0, []) ∧ kg_lk kg_cd28 16 = some (17, 27, 0, 0, 0, []) ∧ kg_lk kg_cd28 17 = some (18, 2, 2, 0, 0, []) ∧ kg_lk kg_cd28 18 = some (21, 39, 27, 3, 87, []) ∧ kg_lk kg_cd28 21 = some (22, 3, 0, 0, 0, []) ∧ kg_lk kg_cd28 22 = some (23, 2, 1, 0, 0, []) ∧ kg_lk kg_cd28 23 = some (24, 2, 2, 0, 0, []) ∧ kg_lk kg_cd28 24 = some (27, 39, 27, 3, 87, []) ∧ kg_lk kg_cd28 27 = some (30, 17, 0, 32, 0, []) ∧ kg_lk kg_cd28 30 = some (31, 0, 1, 0, 0, []) ∧ kg_lk kg_cd28 31 = some (32, 48, 0, 0, 0, []) ∧ kg_lk kg_cd28 32 = some (35, 6, 3, 1, 0, []) ∧ kg_lk kg_cd28 35 = some (38, 18, 0, 2, 0, []) ∧ kg_lk kg_cd28 38 = some (39, 0, 0, 0, 0, []) ∧ kg_lk kg_cd28 39 = some (40, 48, 0, 0, 0, []) := by refine ⟨?_, ?_, ?_, ?_, ?_, ?_, ?_, ?_, ?_, ?_, ?_, ?_, ?_, ?_, ?_, ?_, ?_, ?_, ?_, ?_, ?_, ?_, ?_, ?_⟩ <;> rfl
def kg_cd29 : kg_Cd := [(0, (1, 0, 0, 0, 0, [])), (1, (2, 4, 3, 0, 0, [])), (2, (3, 2, 3, 0, 0, [])), (3, (4, 3, 0, 0, 0, [])), (4, (7, 21, 4, 9, 53, [])), (7, (10, 17, 3, 28, 0, [])), (10, (11, 3, 0, 0, 0, [])), (11, (12, 3, 0, 0, 0, [])), (12, (15, 22, 4, 8, 50, [])), (15, (16, 2, 3, 0, 0, [])), (16, (17, 27, 0, 0, 0, [])), (17, (18, 2, 1, 0, 0, [])), (18, (19, 2, 2, 0, 0, [])), (19, (22, 39, 30, 4, 90, [])), (22, (25, 6, 3, 1, 0, [])), (25, (28, 18, 0, 2, 0, [])), (28, (29, 49, 0, 0, 0, []))]
set_option maxRecDepth 100000 in
theorem kg_ok29 : kg_okc 4 false 4 cX4_mend kg_cd29 = true := by decide +kernel
set_option maxRecDepth 100000 in
theorem kg_lk29 : kg_lk kg_cd29 0 = some (1, 0, 0, 0, 0, []) ∧ kg_lk kg_cd29 1 = some (2, 4, 3, 0, 0, []) ∧ kg_lk kg_cd29 2 = some (3, 2, 3, 0, 0, []) ∧ kg_lk kg_cd29 3 = some (4, 3, 0, 0, 0, []) ∧ kg_lk kg_cd29 4 = some (7, 21, 4, 9, 53, []) ∧ kg_lk kg_cd29 7 = some (10, 17, 3, 28, 0, []) ∧ kg_lk kg_cd29 10 = some (11, 3, 0, 0, 0, []) ∧ kg_lk kg_cd29 11 = some (12, 3, 0, 0, 0, []) ∧ kg_lk kg_cd29 12 = some (15, 22, 4, 8, 50, []) ∧ kg_lk kg_cd29 15 = some (16, 2, 3, 0, 0, []) ∧ kg_lk kg_cd29 16 = some (17, 27, 0, 0, 0, []) ∧ kg_lk kg_cd29 17 = some (18, 2, 1, 0, 0, []) ∧ kg_lk kg_cd29 18 = some (19, 2, 2, 0, 0, []) ∧ kg_lk kg_cd29 19 = some (22, 39, 30, 4, 90, []) ∧ kg_lk kg_cd29 22 = some (25, 6, 3, 1, 0, []) ∧ kg_lk kg_cd29 25 = some (28, 18, 0, 2, 0, []) ∧ kg_lk kg_cd29 28 = some (29, 49, 0, 0, 0, []) := by refine ⟨?_, ?_, ?_, ?_, ?_, ?_, ?_, ?_, ?_, ?_, ?_, ?_, ?_, ?_, ?_, ?_, ?_⟩ <;> rfl
def kg_cd30 : kg_Cd := [(0, (1, 3, 0, 0, 0, [])), (1, (2, 2, 1, 0, 0, [])), (2, (3, 2, 3, 0, 0, [])), (3, (6, 39, 27, 3, 87, [])), (6, (7, 3, 0, 0, 0, [])), (7, (8, 2, 2, 0, 0, [])), (8, (9, 2, 3, 0, 0, [])), (9, (12, 39, 27, 3, 87, [])), (12, (15, 17, 1, 16, 0, [])), (15, (16, 49, 0, 0, 0, [])), (16, (17, 3, 0, 0, 0, [])), (17, (18, 2, 1, 0, 0, [])), (18, (19, 2, 3, 0, 0, [])), (19, (22, 39, 31, 3, 97, [])), (22, (24, 4, 4, 0, 0, [])), (24, (25, 3, 0, 0, 0, [])), (25, (28, 22, 4, 4, 29, [])), (28, (29, 2, 1, 0, 0, [])), (29, (30, 2, 3, 0, 0, [])), (30, (33, 41, 64, 2, 75, [])), (33, (34, 2, 2, 0, 0, [])), (34, (35, 2, 3, 0, 0, [])), (35, (38, 41, 64, 2, 75, [])), (38, (39, 3, 0, 0, 0, [])), (39, (42, 21, 4, 0, 9, [])), (42, (45, 39, 8, 4, 101, [])), (45, (47, 2, 4, 0, 0, [])), (47, (50, 16, 1, 73, 0, [])), (50, (51, 3, 0, 0, 0, [])), (51, (52, 2, 1, 0, 0, [])), (52, (53, 2, 3, 0, 0, [])), (53, (56, 39, 31, 3, 97, [])), (56, (59, 16, 0, 73, 0, [])), (59, (60, 3, 0, 0, 0, [])), (60, (63, 22, 4, 7, 46, [])), (63, (64, 0, 2, 0, 0, [])), (64, (65, 3, 0, 0, 0, [])), (65, (68, 21, 4, 0, 9, [])), (68, (69, 2, 1, 0, 0, [])), (69, (70, 2, 3, 0, 0, [])), (70, (73, 39, 2, 5, 104, [])), (73, (74, 49, 0, 0, 0, []))]
set_option maxRecDepth 100000 in
theorem kg_ok30 : kg_okc 4 false 5 cX4_learn kg_cd30 = true := by decide +kernel
set_option maxRecDepth 100000 in
theorem kg_lk30 : kg_lk kg_cd30 0 = some (1, 3, 0, 0, 0, []) ∧ kg_lk kg_cd30 1 = some (2, 2, 1, 0, 0, []) ∧ kg_lk kg_cd30 2 = some (3, 2, 3, 0, 0, []) ∧ kg_lk kg_cd30 3 = some (6, 39, 27, 3, 87, []) ∧ kg_lk kg_cd30 6 = some (7, 3, 0, 0, 0, []) ∧ kg_lk kg_cd30 7 = some (8, 2, 2, 0, 0, []) ∧ kg_lk kg_cd30 8 = some (9, 2, 3, 0, 0, []) ∧ kg_lk kg_cd30 9 = some (12, 39, 27, 3, 87, []) ∧ kg_lk kg_cd30 12 = some (15, 17, 1, 16, 0, []) ∧ kg_lk kg_cd30 15 = some (16, 49, 0, 0, 0, []) ∧ kg_lk kg_cd30 16 = some (17, 3, 0, 0, 0, []) ∧ kg_lk kg_cd30 17 = some (18, 2, 1, 0, 0, []) ∧ kg_lk kg_cd30 18 = some (19, 2, 3, 0, 0, []) ∧ kg_lk kg_cd30 19 = some (22, 39, 31, 3, 97, []) ∧ kg_lk kg_cd30 22 = some (24, 4, 4, 0, 0, []) ∧ kg_lk kg_cd30 24 = some (25, 3, 0, 0, 0, []) ∧ kg_lk kg_cd30 25 = some (28, 22, 4, 4, 29, []) ∧ kg_lk kg_cd30 28 = some (29, 2, 1, 0, 0, []) ∧ kg_lk kg_cd30 29 = some (30, 2, 3, 0, 0, []) ∧ kg_lk kg_cd30 30 = some (33, 41, 64, 2, 75, []) ∧ kg_lk kg_cd30 33 = some (34, 2, 2, 0, 0, []) ∧ kg_lk kg_cd30 34 = some (35, 2, 3, 0, 0, []) ∧ kg_lk kg_cd30 35 = some (38, 41, 64, 2, 75, []) ∧ kg_lk kg_cd30 38 = some (39, 3, 0, 0, 0, []) ∧ kg_lk kg_cd30 39 = some (42, 21, 4, 0, 9, []) ∧ kg_lk kg_cd30 42 = some (45, 39, 8, 4, 101, []) ∧ kg_lk kg_cd30 45 = some (47, 2, 4, 0, 0, []) ∧ kg_lk kg_cd30 47 = some (50, 16, 1, 73, 0, []) ∧ kg_lk kg_cd30 50 = some (51, 3, 0, 0, 0, []) ∧ kg_lk kg_cd30 51 = some (52, 2, 1, 0, 0, []) ∧ kg_lk kg_cd30 52 = some (53, 2, 3, 0, 0, []) ∧ kg_lk kg_cd30 53 = some (56, 39, 31, 3, 97, []) ∧ kg_lk kg_cd30 56 = some (59, 16, 0, 73, 0, []) ∧ kg_lk kg_cd30 59 = some (60, 3, 0, 0, 0, []) ∧ kg_lk kg_cd30 60 = some (63, 22, 4, 7, 46, []) ∧ kg_lk kg_cd30 63 = some (64, 0, 2, 0, 0, []) ∧ kg_lk kg_cd30 64 = some (65, 3, 0, 0, 0, []) ∧ kg_lk kg_cd30 65 = some (68, 21, 4, 0, 9, []) ∧ kg_lk kg_cd30 68 = some (69, 2, 1, 0, 0, []) ∧ kg_lk kg_cd30 69 = some (70, 2, 3, 0, 0, []) ∧ kg_lk kg_cd30 70 = some (73, 39, 2, 5, 104, []) ∧ kg_lk kg_cd30 73 = some (74, 49, 0, 0, 0, []) := by refine ⟨?_, ?_, ?_, ?_, ?_, ?_, ?_, ?_, ?_, ?_, ?_, ?_, ?_, ?_, ?_, ?_, ?_, ?_, ?_, ?_, ?_, ?_, ?_, ?_, ?_, ?_, ?_, ?_, ?_, ?_, ?_, ?_, ?_, ?_, ?_, ?_, ?_, ?_, ?_, ?_, ?_, ?_⟩ <;> rfl
def kg_cd31 : kg_Cd := [(0, (1, 3, 0, 0, 0, [])), (1, (4, 22, 4, 4, 29, [])), (4, (5, 2, 1, 0, 0, [])), (5, (6, 2, 2, 0, 0, [])), (6, (9, 41, 64, 2, 75, [])), (9, (12, 39, 7, 2, 139, [])), (12, (13, 0, 1, 0, 0, [])), (13, (16, 17, 1, 29, 0, [])), (16, (17, 3, 0, 0, 0, [])), (17, (18, 0, 4, 0, 0, [])), (18, (19, 2, 2, 0, 0, [])), (19, (22, 39, 32, 3, 144, [])), (22, (25, 16, 0, 29, 0, [])), (25, (26, 0, 1, 0, 0, [])), (26, (29, 18, 0, 30, 0, [])), (29, (30, 0, 0, 0, 0, [])), (30, (31, 48, 0, 0, 0, []))]
set_option maxRecDepth 100000 in
theorem kg_ok31 : kg_okc 4 false 3 cX4_isHaunted kg_cd31 = true := by decide +kernel
set_option maxRecDepth 100000 in
theorem kg_lk31 : kg_lk kg_cd31 0 = some (1, 3, 0, 0, 0, []) ∧ kg_lk kg_cd31 1 = some (4, 22, 4, 4, 29, []) ∧ kg_lk kg_cd31 4 = some (5, 2, 1, 0, 0, []) ∧ kg_lk kg_cd31 5 = some (6, 2, 2, 0, 0, []) ∧ kg_lk kg_cd31 6 = some (9, 41, 64, 2, 75, []) ∧ kg_lk kg_cd31 9 = some (12, 39, 7, 2, 139, []) ∧ kg_lk kg_cd31 12 = some (13, 0, 1, 0, 0, []) ∧ kg_lk kg_cd31 13 = some (16, 17, 1, 29, 0, []) ∧ kg_lk kg_cd31 16 = some (17, 3, 0, 0, 0, []) ∧ kg_lk kg_cd31 17 = some (18, 0, 4, 0, 0, []) ∧ kg_lk kg_cd31 18 = some (19, 2, 2, 0, 0, []) ∧ kg_lk kg_cd31 19 = some (22, 39, 32, 3, 144, []) ∧ kg_lk kg_cd31 22 = some (25, 16, 0, 29, 0, []) ∧ kg_lk kg_cd31 25 = some (26, 0, 1, 0, 0, []) ∧ kg_lk kg_cd31 26 = some (29, 18, 0, 30, 0, []) ∧ kg_lk kg_cd31 29 = some (30, 0, 0, 0, 0, []) ∧ kg_lk kg_cd31 30 = some (31, 48, 0, 0, 0, []) := by refine ⟨?_, ?_, ?_, ?_, ?_, ?_, ?_, ?_, ?_, ?_, ?_, ?_, ?_, ?_, ?_, ?_, ?_⟩ <;> rfl
def kg_cd32 : kg_Cd := [(0, (1, 3, 0, 0, 0, [])), (1, (4, 22, 4, 4, 29, [])), (4, (5, 2, 1, 0, 0, [])), (5, (6, 2, 2, 0, 0, [])), (6, (9, 41, 64, 2, 75, [])), (9, (12, 39, 7, 2, 139, [])), (12, (13, 0, 2, 0, 0, [])), (13, (16, 17, 1, 20, 0, [])), (16, (17, 0, 1, 0, 0, [])), (17, (20, 18, 0, 21, 0, [])), (20, (21, 0, 0, 0, 0, [])), (21, (22, 48, 0, 0, 0, []))]
set_option maxRecDepth 100000 in
theorem kg_ok32 : kg_okc 4 false 3 cX4_isGrave kg_cd32 = true := by decide +kernel
set_option maxRecDepth 100000 in
theorem kg_lk32 : kg_lk kg_cd32 0 = some (1, 3, 0, 0, 0, []) ∧ kg_lk kg_cd32 1 = some (4, 22, 4, 4, 29, []) ∧ kg_lk kg_cd32 4 = some (5, 2, 1, 0, 0, []) ∧ kg_lk kg_cd32 5 = some (6, 2, 2, 0, 0, []) ∧ kg_lk kg_cd32 6 = some (9, 41, 64, 2, 75, []) ∧ kg_lk kg_cd32 9 = some (12, 39, 7, 2, 139, []) ∧ kg_lk kg_cd32 12 = some (13, 0, 2, 0, 0, []) ∧ kg_lk kg_cd32 13 = some (16, 17, 1, 20, 0, []) ∧ kg_lk kg_cd32 16 = some (17, 0, 1, 0, 0, []) ∧ kg_lk kg_cd32 17 = some (20, 18, 0, 21, 0, []) ∧ kg_lk kg_cd32 20 = some (21, 0, 0, 0, 0, []) ∧ kg_lk kg_cd32 21 = some (22, 48, 0, 0, 0, []) := by refine ⟨?_, ?_, ?_, ?_, ?_, ?_, ?_, ?_, ?_, ?_, ?_, ?_⟩ <;> rfl
def kg_cd33 : kg_Cd := [(0, (1, 3, 0, 0, 0, [])), (1, (2, 0, 0, 0, 0, [])), (2, (3, 2, 1, 0, 0, [])), (3, (4, 2, 2, 0, 0, [])), (4, (7, 39, 34, 4, 107, [])), (7, (8, 3, 0, 0, 0, [])), (8, (11, 22, 4, 5, 33, [])), (11, (12, 2, 1, 0, 0, [])), (12, (13, 2, 2, 0, 0, [])), (13, (16, 41, 68, 2, 110, [])), (16, (17, 3, 0, 0, 0, [])), (17, (20, 21, 4, 0, 9, [])), (20, (21, 31, 0, 0, 0, [])), (21, (22, 3, 0, 0, 0, [])), (22, (23, 2, 1, 0, 0, [])), (23, (24, 2, 2, 0, 0, [])), (24, (27, 39, 35, 3, 113, [])), (27, (28, 4, 3, 0, 0, [])), (28, (29, 0, 0, 0, 0, [])), (29, (31, 4, 4, 0, 0, [])), (31, (33, 2, 4, 0, 0, [])), (33, (35, 0, 8, 0, 0, [])), (35, (38, 17, 3, 80, 0, [])), (38, (39, 3, 0, 0, 0, [])), (39, (40, 2, 1, 0, 0, [])), (40, (42, 2, 4, 0, 0, [])), (42, (45, 39, 27, 3, 87, [])), (45, (46, 3, 0, 0, 0, [])), (46, (47, 2, 2, 0, 0, [])), (47, (49, 2, 4, 0, 0, [])), (49, (52, 39, 27, 3, 87, [])), (52, (55, 17, 5, 66, 0, [])), (55, (56, 3, 0, 0, 0, [])), (56, (57, 2, 2, 0, 0, [])), (57, (58, 2, 1, 0, 0, [])), (58, (60, 2, 4, 0, 0, [])), (60, (63, 39, 30, 4, 90, [])), (63, (66, 18, 0, 74, 0, [])), (66, (67, 3, 0, 0, 0, [])), (67, (68, 2, 1, 0, 0, [])), (68, (69, 2, 2, 0, 0, [])), (69, (71, 2, 4, 0, 0, [])), (71, (74, 39, 30, 4, 90, [])), (74, (77, 6, 4, 1, 0, [])), (77, (80, 18, 0, 31, 0, [])), (80, (81, 2, 3, 0, 0, [])), (81, (82, 48, 0, 0, 0, []))]
set_option maxRecDepth 100000 in
theorem kg_ok33 : kg_okc 4 false 5 cX4_join kg_cd33 = true := by decide +kernel
set_option maxRecDepth 100000 in
theorem kg_lk33 : kg_lk kg_cd33 0 = some (1, 3, 0, 0, 0, []) ∧ kg_lk kg_cd33 1 = some (2, 0, 0, 0, 0, []) ∧ kg_lk kg_cd33 2 = some (3, 2, 1, 0, 0, []) ∧ kg_lk kg_cd33 3 = some (4, 2, 2, 0, 0, []) ∧ kg_lk kg_cd33 4 = some (7, 39, 34, 4, 107, []) ∧ kg_lk kg_cd33 7 = some (8, 3, 0, 0, 0, []) ∧ kg_lk kg_cd33 8 = some (11, 22, 4, 5, 33, []) ∧ kg_lk kg_cd33 11 = some (12, 2, 1, 0, 0, []) ∧ kg_lk kg_cd33 12 = some (13, 2, 2, 0, 0, []) ∧ kg_lk kg_cd33 13 = some (16, 41, 68, 2, 110, []) ∧ kg_lk kg_cd33 16 = some (17, 3, 0, 0, 0, []) ∧ kg_lk kg_cd33 17 = some (20, 21, 4, 0, 9, []) ∧ kg_lk kg_cd33 20 = some (21, 31, 0, 0, 0, []) ∧ kg_lk kg_cd33 21 = some (22, 3, 0, 0, 0, []) ∧ kg_lk kg_cd33 22 = some (23, 2, 1, 0, 0, []) ∧ kg_lk kg_cd33 23 = some (24, 2, 2, 0, 0, []) ∧ kg_lk kg_cd33 24 = some (27, 39, 35, 3, 113, []) ∧ kg_lk kg_cd33 27 = some (28, 4, 3, 0, 0, []) ∧ kg_lk kg_cd33 28 = some (29, 0, 0, 0, 0, []) ∧ kg_lk kg_cd33 29 = some (31, 4, 4, 0, 0, []) ∧ kg_lk kg_cd33 31 = some (33, 2, 4, 0, 0, []) ∧ kg_lk kg_cd33 33 = some (35, 0, 8, 0, 0, []) ∧ kg_lk kg_cd33 35 = some (38, 17, 3, 80, 0, []) ∧ kg_lk kg_cd33 38 = some (39, 3, 0, 0, 0, []) ∧ kg_lk kg_cd33 39 = some (40, 2, 1, 0, 0, []) ∧ kg_lk kg_cd33 40 = some (42, 2, 4, 0, 0, []) ∧ kg_lk kg_cd33 42 = some (45, 39, 27, 3, 87, []) ∧ kg_lk kg_cd33 45 = some (46, 3, 0, 0, 0, []) ∧ kg_lk kg_cd33 46 = some (47, 2, 2, 0, 0, []) ∧ kg_lk kg_cd33 47 = some (49, 2, 4, 0, 0, []) ∧ kg_lk kg_cd33 49 = some (52, 39, 27, 3, 87, []) ∧ kg_lk kg_cd33 52 = some (55, 17, 5, 66, 0, []) ∧ kg_lk kg_cd33 55 = some (56, 3, 0, 0, 0, []) ∧ kg_lk kg_cd33 56 = some (57, 2, 2, 0, 0, []) ∧ kg_lk kg_cd33 57 = some (58, 2, 1, 0, 0, []) ∧ kg_lk kg_cd33 58 = some (60, 2, 4, 0, 0, []) ∧ kg_lk kg_cd33 60 = some (63, 39, 30, 4, 90, []) ∧ kg_lk kg_cd33 63 = some (66, 18, 0, 74, 0, []) ∧ kg_lk kg_cd33 66 = some (67, 3, 0, 0, 0, []) ∧ kg_lk kg_cd33 67 = some (68, 2, 1, 0, 0, []) ∧ kg_lk kg_cd33 68 = some (69, 2, 2, 0, 0, []) ∧ kg_lk kg_cd33 69 = some (71, 2, 4, 0, 0, []) ∧ kg_lk kg_cd33 71 = some (74, 39, 30, 4, 90, []) ∧ kg_lk kg_cd33 74 = some (77, 6, 4, 1, 0, []) ∧ kg_lk kg_cd33 77 = some (80, 18, 0, 31, 0, []) ∧ kg_lk kg_cd33 80 = some (81, 2, 3, 0, 0, []) ∧ kg_lk kg_cd33 81 = some (82, 48, 0, 0, 0, []) := by refine ⟨?_, ?_, ?_, ?_, ?_, ?_, ?_, ?_, ?_, ?_, ?_, ?_, ?_, ?_, ?_, ?_, ?_, ?_, ?_, ?_, ?_, ?_, ?_, ?_, ?_, ?_, ?_, ?_, ?_, ?_, ?_, ?_, ?_, ?_, ?_, ?_, ?_, ?_, ?_, ?_, ?_, ?_, ?_, ?_, ?_, ?_, ?_⟩ <;> rfl
def kg_cd34 : kg_Cd := [(0, (1, 3, 0, 0, 0, [])), (1, (4, 22, 4, 7, 46, [])), (4, (5, 2, 1, 0, 0, [])), (5, (6, 3, 0, 0, 0, [])), (6, (9, 21, 4, 0, 9, [])), (9, (10, 2, 2, 0, 0, [])), (10, (11, 2, 3, 0, 0, [])), (11, (14, 45, 0, 0, 116, [])), (14, (15, 2, 2, 0, 0, [])), (15, (16, 2, 3, 0, 0, [])), (16, (19, 46, 0, 0, 121, [])), (19, (22, 39, 2, 5, 104, [])), (22, (23, 49, 0, 0, 0, []))]
set_option maxRecDepth 100000 in
theorem kg_ok34 : kg_okc 4 false 4 cX4_logPair kg_cd34 = true := by decide +kernel
set_option maxRecDepth 100000 in
theorem kg_lk34 : kg_lk kg_cd34 0 = some (1, 3, 0, 0, 0, []) ∧ kg_lk kg_cd34 1 = some (4, 22, 4, 7, 46, []) ∧ kg_lk kg_cd34 4 = some (5, 2, 1, 0, 0, []) ∧ kg_lk kg_cd34 5 = some (6, 3, 0, 0, 0, []) ∧ kg_lk kg_cd34 6 = some (9, 21, 4, 0, 9, []) ∧ kg_lk kg_cd34 9 = some (10, 2, 2, 0, 0, []) ∧ kg_lk kg_cd34 10 = some (11, 2, 3, 0, 0, []) ∧ kg_lk kg_cd34 11 = some (14, 45, 0, 0, 116, []) ∧ kg_lk kg_cd34 14 = some (15, 2, 2, 0, 0, []) ∧ kg_lk kg_cd34 15 = some (16, 2, 3, 0, 0, []) ∧ kg_lk kg_cd34 16 = some (19, 46, 0, 0, 121, []) ∧ kg_lk kg_cd34 19 = some (22, 39, 2, 5, 104, []) ∧ kg_lk kg_cd34 22 = some (23, 49, 0, 0, 0, []) := by refine ⟨?_, ?_, ?_, ?_, ?_, ?_, ?_, ?_, ?_, ?_, ?_, ?_, ?_⟩ <;> rfl
def kg_cd35 : kg_Cd := [(0, (1, 0, 0, 0, 0, [])), (1, (2, 4, 3, 0, 0, [])), (2, (3, 0, 0, 0, 0, [])), (3, (5, 4, 4, 0, 0, [])), (5, (7, 2, 4, 0, 0, [])), (7, (9, 0, 8, 0, 0, [])), (9, (12, 17, 3, 38, 0, [])), (12, (13, 3, 0, 0, 0, [])), (13, (14, 2, 1, 0, 0, [])), (14, (16, 2, 4, 0, 0, [])), (16, (19, 39, 27, 3, 87, [])), (19, (20, 3, 0, 0, 0, [])), (20, (21, 2, 2, 0, 0, [])), (21, (23, 2, 4, 0, 0, [])), (23, (26, 39, 27, 3, 87, [])), (26, (29, 17, 0, 32, 0, [])), (29, (32, 6, 3, 1, 0, [])), (32, (35, 6, 4, 1, 0, [])), (35, (38, 18, 0, 5, 0, [])), (38, (39, 2, 3, 0, 0, [])), (39, (40, 48, 0, 0, 0, []))]
set_option maxRecDepth 100000 in
theorem kg_ok35 : kg_okc 4 false 5 cX4_keysKnownOtherwise kg_cd35 = true := by decide +kernel
set_option maxRecDepth 100000 in
theorem kg_lk35 : kg_lk kg_cd35 0 = some (1, 0, 0, 0, 0, []) ∧ kg_lk kg_cd35 1 = some (2, 4, 3, 0, 0, []) ∧ kg_lk kg_cd35 2 = some (3, 0, 0, 0, 0, []) ∧ kg_lk kg_cd35 3 = some (5, 4, 4, 0, 0, []) ∧ kg_lk kg_cd35 5 = some (7, 2, 4, 0, 0, []) ∧ kg_lk kg_cd35 7 = some (9, 0, 8, 0, 0, []) ∧ kg_lk kg_cd35 9 = some (12, 17, 3, 38, 0, []) ∧ kg_lk kg_cd35 12 = some (13, 3, 0, 0, 0, []) ∧ kg_lk kg_cd35 13 = some (14, 2, 1, 0, 0, []) ∧ kg_lk kg_cd35 14 = some (16, 2, 4, 0, 0, []) ∧ kg_lk kg_cd35 16 = some (19, 39, 27, 3, 87, []) ∧ kg_lk kg_cd35 19 = some (20, 3, 0, 0, 0, []) ∧ kg_lk kg_cd35 20 = some (21, 2, 2, 0, 0, []) ∧ kg_lk kg_cd35 21 = some (23, 2, 4, 0, 0, []) ∧ kg_lk kg_cd35 23 = some (26, 39, 27, 3, 87, []) ∧ kg_lk kg_cd35 26 = some (29, 17, 0, 32, 0, []) ∧ kg_lk kg_cd35 29 = some (32, 6, 3, 1, 0, []) ∧ kg_lk kg_cd35 32 = some (35, 6, 4, 1, 0, []) ∧ kg_lk kg_cd35 35 = some (38, 18, 0, 5, 0, []) ∧ kg_lk kg_cd35 38 = some (39, 2, 3, 0, 0, []) ∧ kg_lk kg_cd35 39 = some (40, 48, 0, 0, 0, []) := by refine ⟨?_, ?_, ?_, ?_, ?_, ?_, ?_, ?_, ?_, ?_, ?_, ?_, ?_, ?_, ?_, ?_, ?_, ?_, ?_, ?_, ?_⟩ <;> rfl
def kg_cd36 : kg_Cd := [(0, (1, 0, 0, 0, 0, [])), (1, (2, 4, 2, 0, 0, [])), (2, (3, 0, 0, 0, 0, [])), (3, (4, 4, 3, 0, 0, [])), (4, (5, 2, 3, 0, 0, [])), (5, (7, 0, 8, 0, 0, [])), (7, (10, 17, 3, 28, 0, [])), (10, (11, 3, 0, 0, 0, [])), (11, (12, 2, 1, 0, 0, [])), (12, (13, 2, 3, 0, 0, [])), (13, (16, 39, 37, 3, 159, [])), (16, (19, 16, 0, 22, 0, [])), (19, (22, 6, 2, 1, 0, [])), (22, (25, 6, 3, 1, 0, [])), (25, (28, 18, 0, 4, 0, [])), (28, (29, 2, 2, 0, 0, [])), (29, (30, 48, 0, 0, 0, []))]
set_option maxRecDepth 100000 in
theorem kg_ok36 : kg_okc 4 false 4 cX4_clearableGraves kg_cd36 = true := by decide +kernel
set_option maxRecDepth 100000 in
theorem kg_lk36 : kg_lk kg_cd36 0 = some (1, 0, 0, 0, 0, []) ∧ kg_lk kg_cd36 1 = some (2, 4, 2, 0, 0, []) ∧ kg_lk kg_cd36 2 = some (3, 0, 0, 0, 0, []) ∧ kg_lk kg_cd36 3 = some (4, 4, 3, 0, 0, []) ∧ kg_lk kg_cd36 4 = some (5, 2, 3, 0, 0, []) ∧ kg_lk kg_cd36 5 = some (7, 0, 8, 0, 0, []) ∧ kg_lk kg_cd36 7 = some (10, 17, 3, 28, 0, []) ∧ kg_lk kg_cd36 10 = some (11, 3, 0, 0, 0, []) ∧ kg_lk kg_cd36 11 = some (12, 2, 1, 0, 0, []) ∧ kg_lk kg_cd36 12 = some (13, 2, 3, 0, 0, []) ∧ kg_lk kg_cd36 13 = some (16, 39, 37, 3, 159, []) ∧ kg_lk kg_cd36 16 = some (19, 16, 0, 22, 0, []) ∧ kg_lk kg_cd36 19 = some (22, 6, 2, 1, 0, []) ∧ kg_lk kg_cd36 22 = some (25, 6, 3, 1, 0, []) ∧ kg_lk kg_cd36 25 = some (28, 18, 0, 4, 0, []) ∧ kg_lk kg_cd36 28 = some (29, 2, 2, 0, 0, []) ∧ kg_lk kg_cd36 29 = some (30, 48, 0, 0, 0, []) := by refine ⟨?_, ?_, ?_, ?_, ?_, ?_, ?_, ?_, ?_, ?_, ?_, ?_, ?_, ?_, ?_, ?_, ?_⟩ <;> rfl
def kg_cd37 : kg_Cd := [(0, (1, 3, 0, 0, 0, [])), (1, (2, 2, 1, 0, 0, [])), (2, (3, 2, 2, 0, 0, [])), (3, (6, 39, 38, 3, 150, [])), (6, (9, 16, 1, 11, 0, [])), (9, (10, 0, 0, 0, 0, [])), (10, (11, 48, 0, 0, 0, [])), (11, (12, 3, 0, 0, 0, [])), (12, (15, 22, 4, 2, 18, [])), (15, (16, 0, 3, 0, 0, [])), (16, (17, 27, 0, 0, 0, [])), (17, (20, 16, 0, 41, 0, [])), (20, (21, 3, 0, 0, 0, [])), (21, (22, 2, 1, 0, 0, [])), (22, (23, 3, 0, 0, 0, [])), (23, (26, 22, 4, 4, 29, [])), (26, (29, 22, 1, 3, 153, [])), (29, (30, 2, 1, 0, 0, [])), (30, (31, 2, 2, 0, 0, [])), (31, (34, 41, 64, 2, 75, [])), (34, (35, 27, 0, 0, 0, [])), (35, (38, 39, 40, 3, 156, [])), (38, (41, 16, 0, 45, 0, [])), (41, (42, 0, 1, 0, 0, [])), (42, (45, 18, 0, 46, 0, [])), (45, (46, 0, 0, 0, 0, [])), (46, (47, 48, 0, 0, 0, []))]
set_option maxRecDepth 100000 in
theorem kg_ok37 : kg_okc 4 false 3 cX4_isClearable kg_cd37 = true := by decide +kernel
set_option maxRecDepth 100000 in
theorem kg_lk37 : kg_lk kg_cd37 0 = some (1, 3, 0, 0, 0, []) ∧ kg_lk kg_cd37 1 = some (2, 2, 1, 0, 0, []) ∧ kg_lk kg_cd37 2 = some (3, 2, 2, 0, 0, []) ∧ kg_lk kg_cd37 3 = some (6, 39, 38, 3, 150, []) ∧ kg_lk kg_cd37 6 = some (9, 16, 1, 11, 0, []) ∧ kg_lk kg_cd37 9 = some (10, 0, 0, 0, 0, []) ∧ kg_lk kg_cd37 10 = some (11, 48, 0, 0, 0, []) ∧ kg_lk kg_cd37 11 = some (12, 3, 0, 0, 0, []) ∧ kg_lk kg_cd37 12 = some (15, 22, 4, 2, 18, []) ∧ kg_lk kg_cd37 15 = some (16, 0, 3, 0, 0, []) ∧ kg_lk kg_cd37 16 = some (17, 27, 0, 0, 0, []) ∧ kg_lk kg_cd37 17 = some (20, 16, 0, 41, 0, []) ∧ kg_lk kg_cd37 20 = some (21, 3, 0, 0, 0, []) ∧ kg_lk kg_cd37 21 = some (22, 2, 1, 0, 0, []) ∧ kg_lk kg_cd37 22 = some (23, 3, 0, 0, 0, []) ∧ kg_lk kg_cd37 23 = some (26, 22, 4, 4, 29, []) ∧ kg_lk kg_cd37 26 = some (29, 22, 1, 3, 153, []) ∧ kg_lk kg_cd37 29 = some (30, 2, 1, 0, 0, []) ∧ kg_lk kg_cd37 30 = some (31, 2, 2, 0, 0, []) ∧ kg_lk kg_cd37 31 = some (34, 41, 64, 2, 75, []) ∧ kg_lk kg_cd37 34 = some (35, 27, 0, 0, 0, []) ∧ kg_lk kg_cd37 35 = some (38, 39, 40, 3, 156, []) ∧ kg_lk kg_cd37 38 = some (41, 16, 0, 45, 0, []) ∧ kg_lk kg_cd37 41 = some (42, 0, 1, 0, 0, []) ∧ kg_lk kg_cd37 42 = some (45, 18, 0, 46, 0, []) ∧ kg_lk kg_cd37 45 = some (46, 0, 0, 0, 0, []) ∧ kg_lk kg_cd37 46 = some (47, 48, 0, 0, 0, []) := by refine ⟨?_, ?_, ?_, ?_, ?_, ?_, ?_, ?_, ?_, ?_, ?_, ?_, ?_, ?_, ?_, ?_, ?_, ?_, ?_, ?_, ?_, ?_, ?_, ?_, ?_, ?_, ?_⟩ <;> rfl
def kg_cd38 : kg_Cd := [(0, (1, 3, 0, 0, 0, [])), (1, (2, 2, 1, 0, 0, [])), (2, (3, 2, 2, 0, 0, [])), (3, (6, 39, 32, 3, 144, [])), (6, (9, 16, 0, 28, 0, [])), (9, (10, 3, 0, 0, 0, [])), (10, (11, 2, 1, 0, 0, [])), (11, (12, 2, 2, 0, 0, [])), (12, (15, 39, 39, 3, 147, [])), (15, (16, 3, 0, 0, 0, [])), (16, (19, 22, 4, 2, 18, [])), (19, (20, 0, 2, 0, 0, [])), (20, (21, 27, 0, 0, 0, [])), (21, (24, 17, 2, 28, 0, [])), (24, (25, 0, 1, 0, 0, [])), (25, (28, 18, 0, 29, 0, [])), (28, (29, 0, 0, 0, 0, [])), (29, (30, 48, 0, 0, 0, []))]
set_option maxRecDepth 100000 in
theorem kg_ok38 : kg_okc 4 false 3 cX4_isRipe kg_cd38 = true := by decide +kernel
set_option maxRecDepth 100000 in
theorem kg_lk38 : kg_lk kg_cd38 0 = some (1, 3, 0, 0, 0, []) ∧ kg_lk kg_cd38 1 = some (2, 2, 1, 0, 0, []) ∧ kg_lk kg_cd38 2 = some (3, 2, 2, 0, 0, []) ∧ kg_lk kg_cd38 3 = some (6, 39, 32, 3, 144, []) ∧ kg_lk kg_cd38 6 = some (9, 16, 0, 28, 0, []) ∧ kg_lk kg_cd38 9 = some (10, 3, 0, 0, 0, []) ∧ kg_lk kg_cd38 10 = some (11, 2, 1, 0, 0, []) ∧ kg_lk kg_cd38 11 = some (12, 2, 2, 0, 0, []) ∧ kg_lk kg_cd38 12 = some (15, 39, 39, 3, 147, []) ∧ kg_lk kg_cd38 15 = some (16, 3, 0, 0, 0, []) ∧ kg_lk kg_cd38 16 = some (19, 22, 4, 2, 18, []) ∧ kg_lk kg_cd38 19 = some (20, 0, 2, 0, 0, []) ∧ kg_lk kg_cd38 20 = some (21, 27, 0, 0, 0, []) ∧ kg_lk kg_cd38 21 = some (24, 17, 2, 28, 0, []) ∧ kg_lk kg_cd38 24 = some (25, 0, 1, 0, 0, []) ∧ kg_lk kg_cd38 25 = some (28, 18, 0, 29, 0, []) ∧ kg_lk kg_cd38 28 = some (29, 0, 0, 0, 0, []) ∧ kg_lk kg_cd38 29 = some (30, 48, 0, 0, 0, []) := by refine ⟨?_, ?_, ?_, ?_, ?_, ?_, ?_, ?_, ?_, ?_, ?_, ?_, ?_, ?_, ?_, ?_, ?_, ?_⟩ <;> rfl
def kg_cd39 : kg_Cd := [(0, (1, 3, 0, 0, 0, [])), (1, (4, 21, 4, 0, 9, [])), (4, (5, 3, 0, 0, 0, [])), (5, (8, 22, 4, 4, 29, [])), (8, (11, 22, 1, 2, 143, [])), (11, (12, 2, 1, 0, 0, [])), (12, (13, 2, 2, 0, 0, [])), (13, (16, 41, 64, 2, 75, [])), (16, (17, 27, 0, 0, 0, [])), (17, (18, 8, 0, 0, 0, [])), (18, (19, 48, 0, 0, 0, []))]
set_option maxRecDepth 100000 in
theorem kg_ok39 : kg_okc 4 false 3 cX4_ticksSince kg_cd39 = true := by decide +kernel
set_option maxRecDepth 100000 in
theorem kg_lk39 : kg_lk kg_cd39 0 = some (1, 3, 0, 0, 0, []) ∧ kg_lk kg_cd39 1 = some (4, 21, 4, 0, 9, []) ∧ kg_lk kg_cd39 4 = some (5, 3, 0, 0, 0, []) ∧ kg_lk kg_cd39 5 = some (8, 22, 4, 4, 29, []) ∧ kg_lk kg_cd39 8 = some (11, 22, 1, 2, 143, []) ∧ kg_lk kg_cd39 11 = some (12, 2, 1, 0, 0, []) ∧ kg_lk kg_cd39 12 = some (13, 2, 2, 0, 0, []) ∧ kg_lk kg_cd39 13 = some (16, 41, 64, 2, 75, []) ∧ kg_lk kg_cd39 16 = some (17, 27, 0, 0, 0, []) ∧ kg_lk kg_cd39 17 = some (18, 8, 0, 0, 0, []) ∧ kg_lk kg_cd39 18 = some (19, 48, 0, 0, 0, []) := by refine ⟨?_, ?_, ?_, ?_, ?_, ?_, ?_, ?_, ?_, ?_, ?_⟩ <;> rfl
def kg_cd40 : kg_Cd := [(0, (1, 0, 0, 0, 0, [])), (1, (2, 4, 3, 0, 0, [])), (2, (3, 2, 3, 0, 0, [])), (3, (4, 0, 4, 0, 0, [])), (4, (7, 17, 3, 34, 0, [])), (7, (8, 2, 3, 0, 0, [])), (8, (9, 2, 1, 0, 0, [])), (9, (12, 17, 0, 28, 0, [])), (12, (13, 3, 0, 0, 0, [])), (13, (16, 22, 4, 5, 33, [])), (16, (17, 2, 1, 0, 0, [])), (17, (18, 2, 3, 0, 0, [])), (18, (21, 41, 68, 2, 110, [])), (21, (22, 27, 0, 0, 0, [])), (22, (23, 2, 2, 0, 0, [])), (23, (26, 17, 4, 28, 0, [])), (26, (27, 0, 0, 0, 0, [])), (27, (28, 48, 0, 0, 0, [])), (28, (31, 6, 3, 1, 0, [])), (31, (34, 18, 0, 2, 0, [])), (34, (35, 0, 1, 0, 0, [])), (35, (36, 48, 0, 0, 0, []))]
set_option maxRecDepth 100000 in
theorem kg_ok40 : kg_okc 4 false 4 cX4_isRepairedSince kg_cd40 = true := by decide +kernel
set_option maxRecDepth 100000 in
theorem kg_lk40 : kg_lk kg_cd40 0 = some (1, 0, 0, 0, 0, []) ∧ kg_lk kg_cd40 1 = some (2, 4, 3, 0, 0, []) ∧ kg_lk kg_cd40 2 = some (3, 2, 3, 0, 0, []) ∧ kg_lk kg_cd40 3 = some (4, 0, 4, 0, 0, []) ∧ kg_lk kg_cd40 4 = some (7, 17, 3, 34, 0, []) ∧ kg_lk kg_cd40 7 = some (8, 2, 3, 0, 0, []) ∧ kg_lk kg_cd40 8 = some (9, 2, 1, 0, 0, []) ∧ kg_lk kg_cd40 9 = some (12, 17, 0, 28, 0, []) ∧ kg_lk kg_cd40 12 = some (13, 3, 0, 0, 0, []) ∧ kg_lk kg_cd40 13 = some (16, 22, 4, 5, 33, []) ∧ kg_lk kg_cd40 16 = some (17, 2, 1, 0, 0, []) ∧ kg_lk kg_cd40 17 = some (18, 2, 3, 0, 0, []) ∧ kg_lk kg_cd40 18 = some (21, 41, 68, 2, 110, []) ∧ kg_lk kg_cd40 21 = some (22, 27, 0, 0, 0, []) ∧ kg_lk kg_cd40 22 = some (23, 2, 2, 0, 0, []) ∧ kg_lk kg_cd40 23 = some (26, 17, 4, 28, 0, []) ∧ kg_lk kg_cd40 26 = some (27, 0, 0, 0, 0, []) ∧ kg_lk kg_cd40 27 = some (28, 48, 0, 0, 0, []) ∧ kg_lk kg_cd40 28 = some (31, 6, 3, 1, 0, []) ∧ kg_lk kg_cd40 31 = some (34, 18, 0, 2, 0, []) ∧ kg_lk kg_cd40 34 = some (35, 0, 1, 0, 0, []) ∧ kg_lk kg_cd40 35 = some (36, 48, 0, 0, 0, []) := by refine ⟨?_, ?_, ?_, ?_, ?_, ?_, ?_, ?_, ?_, ?_, ?_, ?_, ?_, ?_, ?_, ?_, ?_, ?_, ?_, ?_, ?_, ?_⟩ <;> rfl
def kg_cd41 : kg_Cd := [(0, (1, 0, 0, 0, 0, [])), (1, (2, 4, 2, 0, 0, [])), (2, (3, 0, 0, 0, 0, [])), (3, (4, 4, 3, 0, 0, [])), (4, (5, 2, 3, 0, 0, [])), (5, (7, 0, 8, 0, 0, [])), (7, (10, 17, 3, 40, 0, [])), (10, (11, 3, 0, 0, 0, [])), (11, (12, 2, 1, 0, 0, [])), (12, (13, 2, 3, 0, 0, [])), (13, (16, 39, 37, 3, 159, [])), (16, (19, 16, 0, 34, 0, [])), (19, (20, 3, 0, 0, 0, [])), (20, (23, 22, 4, 4, 29, [])), (23, (24, 2, 1, 0, 0, [])), (24, (25, 2, 3, 0, 0, [])), (25, (28, 41, 64, 2, 75, [])), (28, (31, 39, 10, 2, 162, [])), (31, (34, 6, 2, 1, 0, [])), (34, (37, 6, 3, 1, 0, [])), (37, (40, 18, 0, 4, 0, [])), (40, (41, 3, 0, 0, 0, [])), (41, (44, 22, 4, 7, 46, [])), (44, (45, 0, 3, 0, 0, [])), (45, (46, 3, 0, 0, 0, [])), (46, (49, 21, 4, 0, 9, [])), (49, (50, 2, 1, 0, 0, [])), (50, (51, 2, 2, 0, 0, [])), (51, (54, 39, 2, 5, 104, [])), (54, (55, 2, 2, 0, 0, [])), (55, (56, 48, 0, 0, 0, []))]
set_option maxRecDepth 100000 in
theorem kg_ok41 : kg_okc 4 false 4 cX4_clearGraves kg_cd41 = true := by decide +kernel
set_option maxRecDepth 100000 in
theorem kg_lk41 : kg_lk kg_cd41 0 = some (1, 0, 0, 0, 0, []) ∧ kg_lk kg_cd41 1 = some (2, 4, 2, 0, 0, []) ∧ kg_lk kg_cd41 2 = some (3, 0, 0, 0, 0, []) ∧ kg_lk kg_cd41 3 = some (4, 4, 3, 0, 0, []) ∧ kg_lk kg_cd41 4 = some (5, 2, 3, 0, 0, []) ∧ kg_lk kg_cd41 5 = some (7, 0, 8, 0, 0, []) ∧ kg_lk kg_cd41 7 = some (10, 17, 3, 40, 0, []) ∧ kg_lk kg_cd41 10 = some (11, 3, 0, 0, 0, []) ∧ kg_lk kg_cd41 11 = some (12, 2, 1, 0, 0, []) ∧ kg_lk kg_cd41 12 = some (13, 2, 3, 0, 0, []) ∧ kg_lk kg_cd41 13 = some (16, 39, 37, 3, 159, []) ∧ kg_lk kg_cd41 16 = some (19, 16, 0, 34, 0, []) ∧ kg_lk kg_cd41 19 = some (20, 3, 0, 0, 0, []) ∧ kg_lk kg_cd41 20 = some (23, 22, 4, 4, 29, []) ∧ kg_lk kg_cd41 23 = some (24, 2, 1, 0, 0, []) ∧ kg_lk kg_cd41 24 = some (25, 2, 3, 0, 0, []) ∧ kg_lk kg_cd41 25 = some (28, 41, 64, 2, 75, []) ∧ kg_lk kg_cd41 28 = some (31, 39, 10, 2, 162, []) ∧ kg_lk kg_cd41 31 = some (34, 6, 2, 1, 0, []) ∧ kg_lk kg_cd41 34 = some (37, 6, 3, 1, 0, []) ∧ kg_lk kg_cd41 37 = some (40, 18, 0, 4, 0, []) ∧ kg_lk kg_cd41 40 = some (41, 3, 0, 0, 0, []) ∧ kg_lk kg_cd41 41 = some (44, 22, 4, 7, 46, []) ∧ kg_lk kg_cd41 44 = some (45, 0, 3, 0, 0, []) ∧ kg_lk kg_cd41 45 = some (46, 3, 0, 0, 0, []) ∧ kg_lk kg_cd41 46 = some (49, 21, 4, 0, 9, []) ∧ kg_lk kg_cd41 49 = some (50, 2, 1, 0, 0, []) ∧ kg_lk kg_cd41 50 = some (51, 2, 2, 0, 0, []) ∧ kg_lk kg_cd41 51 = some (54, 39, 2, 5, 104, []) ∧ kg_lk kg_cd41 54 = some (55, 2, 2, 0, 0, []) ∧ kg_lk kg_cd41 55 = some (56, 48, 0, 0, 0, []) := by refine ⟨?_, ?_, ?_, ?_, ?_, ?_, ?_, ?_, ?_, ?_, ?_, ?_, ?_, ?_, ?_, ?_, ?_, ?_, ?_, ?_, ?_, ?_, ?_, ?_, ?_, ?_, ?_, ?_, ?_, ?_, ?_⟩ <;> rfl
def kg_cd42 : kg_Cd := [(0, (1, 3, 0, 0, 0, [])), (1, (2, 13, 0, 0, 0, [])), (2, (5, 21, 4, 0, 9, [])), (5, (6, 0, 1, 0, 0, [])), (6, (7, 7, 0, 0, 0, [])), (7, (10, 23, 4, 0, 9, [])), (10, (11, 0, 0, 0, 0, [])), (11, (12, 4, 1, 0, 0, [])), (12, (13, 0, 0, 0, 0, [])), (13, (14, 4, 2, 0, 0, [])), (14, (15, 2, 2, 0, 0, [])), (15, (16, 3, 0, 0, 0, [])), (16, (19, 22, 4, 6, 39, [])), (19, (22, 21, 2, 0, 124, [])), (22, (25, 17, 3, 109, 0, [])), (25, (26, 3, 0, 0, 0, [])), (26, (29, 22, 4, 6, 39, [])), (29, (32, 22, 2, 3, 127, [])), (32, (33, 2, 2, 0, 0, [])), (33, (34, 27, 0, 0, 0, [])), (34, (35, 3, 0, 0, 0, [])), (35, (38, 21, 4, 0, 9, [])), (38, (41, 17, 1, 103, 0, [])), (41, (42, 3, 0, 0, 0, [])), (42, (45, 22, 4, 6, 39, [])), (45, (48, 22, 2, 1, 130, [])), (48, (49, 2, 2, 0, 0, [])), (49, (50, 27, 0, 0, 0, [])), (50, (51, 4, 3, 0, 0, [])), (51, (52, 3, 0, 0, 0, [])), (52, (55, 22, 4, 6, 39, [])), (55, (58, 22, 2, 2, 133, [])), (58, (59, 2, 2, 0, 0, [])), (59, (60, 27, 0, 0, 0, [])), (60, (62, 4, 4, 0, 0, [])), (62, (63, 3, 0, 0, 0, [])), (63, (66, 22, 4, 3, 22, [])), (66, (67, 2, 3, 0, 0, [])), (67, (68, 28, 0, 0, 0, [])), (68, (71, 16, 0, 95, 0, [])), (71, (72, 3, 0, 0, 0, [])), (72, (75, 22, 4, 3, 22, [])), (75, (77, 2, 4, 0, 0, [])), (77, (78, 28, 0, 0, 0, [])), (78, (81, 16, 0, 95, 0, [])), (81, (82, 3, 0, 0, 0, [])), (82, (83, 2, 3, 0, 0, [])), (83, (85, 2, 4, 0, 0, [])), (85, (88, 39, 33, 3, 136, [])), (88, (89, 15, 0, 0, 0, [])), (89, (92, 6, 1, 1, 0, [])), (92, (95, 18, 0, 103, 0, [])), (95, (96, 3, 0, 0, 0, [])), (96, (97, 0, 1, 0, 0, [])), (97, (98, 2, 3, 0, 0, [])), (98, (100, 2, 4, 0, 0, [])), (100, (103, 39, 34, 4, 107, [])), (103, (106, 6, 2, 1, 0, [])), (106, (109, 18, 0, 14, 0, [])), (109, (110, 2, 1, 0, 0, [])), (110, (111, 48, 0, 0, 0, []))]
set_option maxRecDepth 100000 in
theorem kg_ok42 : kg_okc 4 false 5 cX4_passTick kg_cd42 = true := by decide +kernel
set_option maxRecDepth 100000 in
theorem kg_lk42 : kg_lk kg_cd42 0 = some (1, 3, 0, 0, 0, []) ∧ kg_lk kg_cd42 1 = some (2, 13, 0, 0, 0, []) ∧ kg_lk kg_cd42 2 = some (5, 21, 4, 0, 9, []) ∧ kg_lk kg_cd42 5 = some (6, 0, 1, 0, 0, []) ∧ kg_lk kg_cd42 6 = some (7, 7, 0, 0, 0, []) ∧ kg_lk kg_cd42 7 = some (10, 23, 4, 0, 9, []) ∧ kg_lk kg_cd42 10 = some (11, 0, 0, 0, 0, []) ∧ kg_lk kg_cd42 11 = some (12, 4, 1, 0, 0, []) ∧ kg_lk kg_cd42 12 = some (13, 0, 0, 0, 0, []) ∧ kg_lk kg_cd42 13 = some (14, 4, 2, 0, 0, []) ∧ kg_lk kg_cd42 14 = some (15, 2, 2, 0, 0, []) ∧ kg_lk kg_cd42 15 = some (16, 3, 0, 0, 0, []) ∧ kg_lk kg_cd42 16 = some (19, 22, 4, 6, 39, []) ∧ kg_lk kg_cd42 19 = some (22, 21, 2, 0, 124, []) ∧ kg_lk kg_cd42 22 = some (25, 17, 3, 109, 0, []) ∧ kg_lk kg_cd42 25 = some (26, 3, 0, 0, 0, []) ∧ kg_lk kg_cd42 26 = some (29, 22, 4, 6, 39, []) ∧ kg_lk kg_cd42 29 = some (32, 22, 2, 3, 127, []) ∧ kg_lk kg_cd42 32 = some (33, 2, 2, 0, 0, []) ∧ kg_lk kg_cd42 33 = some (34, 27, 0, 0, 0, []) ∧ kg_lk kg_cd42 34 = some (35, 3, 0, 0, 0, []) ∧ kg_lk kg_cd42 35 = some (38, 21, 4, 0, 9, []) ∧ kg_lk kg_cd42 38 = some (41, 17, 1, 103, 0, []) ∧ kg_lk kg_cd42 41 = some (42, 3, 0, 0, 0, []) ∧ kg_lk kg_cd42 42 = some (45, 22, 4, 6, 39, []) ∧ kg_lk kg_cd42 45 = some (48, 22, 2, 1, 130, []) ∧ kg_lk kg_cd42 48 = some (49, 2, 2, 0, 0, []) ∧ kg_lk kg_cd42 49 = some (50, 27, 0, 0, 0, []) ∧ kg_lk kg_cd42 50 = some (51, 4, 3, 0, 0, []) ∧ kg_lk kg_cd42 51 = some (52, 3, 0, 0, 0, []) ∧ kg_lk kg_cd42 52 = some (55, 22, 4, 6, 39, []) ∧ kg_lk kg_cd42 55 = some (58, 22, 2, 2, 133, []) ∧ kg_lk kg_cd42 58 = some (59, 2, 2, 0, 0, []) ∧ kg_lk kg_cd42 59 = some (60, 27, 0, 0, 0, []) ∧ kg_lk kg_cd42 60 = some (62, 4, 4, 0, 0, []) ∧ kg_lk kg_cd42 62 = some (63, 3, 0, 0, 0, []) ∧ kg_lk kg_cd42 63 = some (66, 22, 4, 3, 22, []) ∧ kg_lk kg_cd42 66 = some (67, 2, 3, 0, 0, []) ∧ kg_lk kg_cd42 67 = some (68, 28, 0, 0, 0, []) ∧ kg_lk kg_cd42 68 = some (71, 16, 0, 95, 0, []) ∧ kg_lk kg_cd42 71 = some (72, 3, 0, 0, 0, []) ∧ kg_lk kg_cd42 72 = some (75, 22, 4, 3, 22, []) ∧ kg_lk kg_cd42 75 = some (77, 2, 4, 0, 0, []) ∧ kg_lk kg_cd42 77 = some (78, 28, 0, 0, 0, []) ∧ kg_lk kg_cd42 78 = some (81, 16, 0, 95, 0, []) ∧ kg_lk kg_cd42 81 = some (82, 3, 0, 0, 0, []) ∧ kg_lk kg_cd42 82 = some (83, 2, 3, 0, 0, []) ∧ kg_lk kg_cd42 83 = some (85, 2, 4, 0, 0, []) ∧ kg_lk kg_cd42 85 = some (88, 39, 33, 3, 136, []) ∧ kg_lk kg_cd42 88 = some (89, 15, 0, 0, 0, []) ∧ kg_lk kg_cd42 89 = some (92, 6, 1, 1, 0, []) ∧ kg_lk kg_cd42 92 = some (95, 18, 0, 103, 0, []) ∧ kg_lk kg_cd42 95 = some (96, 3, 0, 0, 0, []) ∧ kg_lk kg_cd42 96 = some (97, 0, 1, 0, 0, []) ∧ kg_lk kg_cd42 97 = some (98, 2, 3, 0, 0, []) ∧ kg_lk kg_cd42 98 = some (100, 2, 4, 0, 0, []) ∧ kg_lk kg_cd42 100 = some (103, 39, 34, 4, 107, []) ∧ kg_lk kg_cd42 103 = some (106, 6, 2, 1, 0, []) ∧ kg_lk kg_cd42 106 = some (109, 18, 0, 14, 0, []) ∧ kg_lk kg_cd42 109 = some (110, 2, 1, 0, 0, []) ∧ kg_lk kg_cd42 110 = some (111, 48, 0, 0, 0, []) := by refine ⟨?_, ?_, ?_, ?_, ?_, ?_, ?_, ?_, ?_, ?_, ?_, ?_, ?_, ?_, ?_, ?_, ?_, ?_, ?_, ?_, ?_, ?_, ?_, ?_, ?_, ?_, ?_, ?_, ?_, ?_, ?_, ?_, ?_, ?_, ?_, ?_, ?_, ?_, ?_, ?_, ?_, ?_, ?_, ?_, ?_, ?_, ?_, ?_, ?_, ?_, ?_, ?_, ?_, ?_, ?_, ?_, ?_, ?_, ?_, ?_, ?_⟩ <;> rfl
def kg_cd43 : kg_Cd := [(0, (1, 0, 0, 0, 0, [])), (1, (2, 4, 2, 0, 0, [])), (2, (3, 0, 0, 0, 0, [])), (3, (4, 4, 3, 0, 0, [])), (4, (5, 2, 3, 0, 0, [])), (5, (6, 0, 4, 0, 0, [])), (6, (9, 17, 3, 33, 0, [])), (9, (10, 3, 0, 0, 0, [])), (10, (11, 2, 3, 0, 0, [])), (11, (12, 2, 1, 0, 0, [])), (12, (15, 39, 27, 3, 87, [])), (15, (16, 3, 0, 0, 0, [])), (16, (17, 0, 4, 0, 0, [])), (17, (18, 2, 1, 0, 0, [])), (18, (21, 39, 27, 3, 87, [])), (21, (24, 17, 1, 27, 0, [])), (24, (27, 6, 2, 1, 0, [])), (27, (30, 6, 3, 1, 0, [])), (30, (33, 18, 0, 4, 0, [])), (33, (34, 2, 2, 0, 0, [])), (34, (35, 48, 0, 0, 0, []))]
set_option maxRecDepth 100000 in
theorem kg_ok43 : kg_okc 4 false 4 cX4_nodesWithTruth kg_cd43 = true := by decide +kernel
set_option maxRecDepth 100000 in
theorem kg_lk43 : kg_lk kg_cd43 0 = some (1, 0, 0, 0, 0, []) ∧ kg_lk kg_cd43 1 = some (2, 4, 2, 0, 0, []) ∧ kg_lk kg_cd43 2 = some (3, 0, 0, 0, 0, []) ∧ kg_lk kg_cd43 3 = some (4, 4, 3, 0, 0, []) ∧ kg_lk kg_cd43 4 = some (5, 2, 3, 0, 0, []) ∧ kg_lk kg_cd43 5 = some (6, 0, 4, 0, 0, []) ∧ kg_lk kg_cd43 6 = some (9, 17, 3, 33, 0, []) ∧ kg_lk kg_cd43 9 = some (10, 3, 0, 0, 0, []) ∧ kg_lk kg_cd43 10 = some (11, 2, 3, 0, 0, []) ∧ kg_lk kg_cd43 11 = some (12, 2, 1, 0, 0, []) ∧ kg_lk kg_cd43 12 = some (15, 39, 27, 3, 87, []) ∧ kg_lk kg_cd43 15 = some (16, 3, 0, 0, 0, []) ∧ kg_lk kg_cd43 16 = some (17, 0, 4, 0, 0, []) ∧ kg_lk kg_cd43 17 = some (18, 2, 1, 0, 0, []) ∧ kg_lk kg_cd43 18 = some (21, 39, 27, 3, 87, []) ∧ kg_lk kg_cd43 21 = some (24, 17, 1, 27, 0, []) ∧ kg_lk kg_cd43 24 = some (27, 6, 2, 1, 0, []) ∧ kg_lk kg_cd43 27 = some (30, 6, 3, 1, 0, []) ∧ kg_lk kg_cd43 30 = some (33, 18, 0, 4, 0, []) ∧ kg_lk kg_cd43 33 = some (34, 2, 2, 0, 0, []) ∧ kg_lk kg_cd43 34 = some (35, 48, 0, 0, 0, []) := by refine ⟨?_, ?_, ?_, ?_, ?_, ?_, ?_, ?_, ?_, ?_, ?_, ?_, ?_, ?_, ?_, ?_, ?_, ?_, ?_, ?_, ?_⟩ <;> rfl
def kg_cd44 : kg_Cd := [(0, (1, 0, 0, 0, 0, [])), (1, (2, 4, 2, 0, 0, [])), (2, (3, 0, 0, 0, 0, [])), (3, (4, 4, 3, 0, 0, [])), (4, (5, 2, 3, 0, 0, [])), (5, (6, 0, 4, 0, 0, [])), (6, (9, 17, 3, 27, 0, [])), (9, (10, 3, 0, 0, 0, [])), (10, (11, 2, 3, 0, 0, [])), (11, (12, 2, 1, 0, 0, [])), (12, (15, 39, 31, 3, 97, [])), (15, (18, 16, 0, 21, 0, [])), (18, (21, 6, 2, 1, 0, [])), (21, (24, 6, 3, 1, 0, [])), (24, (27, 18, 0, 4, 0, [])), (27, (28, 2, 2, 0, 0, [])), (28, (29, 48, 0, 0, 0, []))]
set_option maxRecDepth 100000 in
theorem kg_ok44 : kg_okc 4 false 4 cX4_nodesHauntedBy kg_cd44 = true := by decide +kernel
set_option maxRecDepth 100000 in
theorem kg_lk44 : kg_lk kg_cd44 0 = some (1, 0, 0, 0, 0, []) ∧ kg_lk kg_cd44 1 = some (2, 4, 2, 0, 0, []) ∧ kg_lk kg_cd44 2 = some (3, 0, 0, 0, 0, []) ∧ kg_lk kg_cd44 3 = some (4, 4, 3, 0, 0, []) ∧ kg_lk kg_cd44 4 = some (5, 2, 3, 0, 0, []) ∧ kg_lk kg_cd44 5 = some (6, 0, 4, 0, 0, []) ∧ kg_lk kg_cd44 6 = some (9, 17, 3, 27, 0, []) ∧ kg_lk kg_cd44 9 = some (10, 3, 0, 0, 0, []) ∧ kg_lk kg_cd44 10 = some (11, 2, 3, 0, 0, []) ∧ kg_lk kg_cd44 11 = some (12, 2, 1, 0, 0, []) ∧ kg_lk kg_cd44 12 = some (15, 39, 31, 3, 97, []) ∧ kg_lk kg_cd44 15 = some (18, 16, 0, 21, 0, []) ∧ kg_lk kg_cd44 18 = some (21, 6, 2, 1, 0, []) ∧ kg_lk kg_cd44 21 = some (24, 6, 3, 1, 0, []) ∧ kg_lk kg_cd44 24 = some (27, 18, 0, 4, 0, []) ∧ kg_lk kg_cd44 27 = some (28, 2, 2, 0, 0, []) ∧ kg_lk kg_cd44 28 = some (29, 48, 0, 0, 0, []) := by refine ⟨?_, ?_, ?_, ?_, ?_, ?_, ?_, ?_, ?_, ?_, ?_, ?_, ?_, ?_, ?_, ?_, ?_⟩ <;> rfl
def kg_cd45 : kg_Cd := [(0, (1, 3, 0, 0, 0, [])), (1, (2, 2, 1, 0, 0, [])), (2, (3, 2, 2, 0, 0, [])), (3, (6, 39, 32, 3, 144, [])), (6, (9, 16, 1, 11, 0, [])), (9, (10, 0, 0, 0, 0, [])), (10, (11, 48, 0, 0, 0, [])), (11, (12, 0, 0, 0, 0, [])), (12, (13, 4, 3, 0, 0, [])), (13, (14, 2, 3, 0, 0, [])), (14, (15, 0, 4, 0, 0, [])), (15, (18, 17, 3, 41, 0, [])), (18, (19, 3, 0, 0, 0, [])), (19, (20, 2, 3, 0, 0, [])), (20, (21, 2, 2, 0, 0, [])), (21, (24, 39, 27, 3, 87, [])), (24, (25, 3, 0, 0, 0, [])), (25, (26, 2, 1, 0, 0, [])), (26, (27, 2, 2, 0, 0, [])), (27, (30, 39, 27, 3, 87, [])), (30, (33, 17, 3, 35, 0, [])), (33, (34, 0, 0, 0, 0, [])), (34, (35, 48, 0, 0, 0, [])), (35, (38, 6, 3, 1, 0, [])), (38, (41, 18, 0, 13, 0, [])), (41, (42, 0, 1, 0, 0, [])), (42, (43, 48, 0, 0, 0, []))]
set_option maxRecDepth 100000 in
theorem kg_ok45 : kg_okc 4 false 4 cX4_isSettledGrave kg_cd45 = true := by decide +kernel
set_option maxRecDepth 100000 in
theorem kg_lk45 : kg_lk kg_cd45 0 = some (1, 3, 0, 0, 0, []) ∧ kg_lk kg_cd45 1 = some (2, 2, 1, 0, 0, []) ∧ kg_lk kg_cd45 2 = some (3, 2, 2, 0, 0, []) ∧ kg_lk kg_cd45 3 = some (6, 39, 32, 3, 144, []) ∧ kg_lk kg_cd45 6 = some (9, 16, 1, 11, 0, []) ∧ kg_lk kg_cd45 9 = some (10, 0, 0, 0, 0, []) ∧ kg_lk kg_cd45 10 = some (11, 48, 0, 0, 0, []) ∧ kg_lk kg_cd45 11 = some (12, 0, 0, 0, 0, []) ∧ kg_lk kg_cd45 12 = some (13, 4, 3, 0, 0, []) ∧ kg_lk kg_cd45 13 = some (14, 2, 3, 0, 0, []) ∧ kg_lk kg_cd45 14 = some (15, 0, 4, 0, 0, []) ∧ kg_lk kg_cd45 15 = some (18, 17, 3, 41, 0, []) ∧ kg_lk kg_cd45 18 = some (19, 3, 0, 0, 0, []) ∧ kg_lk kg_cd45 19 = some (20, 2, 3, 0, 0, []) ∧ kg_lk kg_cd45 20 = some (21, 2, 2, 0, 0, []) ∧ kg_lk kg_cd45 21 = some (24, 39, 27, 3, 87, []) ∧ kg_lk kg_cd45 24 = some (25, 3, 0, 0, 0, []) ∧ kg_lk kg_cd45 25 = some (26, 2, 1, 0, 0, []) ∧ kg_lk kg_cd45 26 = some (27, 2, 2, 0, 0, []) ∧ kg_lk kg_cd45 27 = some (30, 39, 27, 3, 87, []) ∧ kg_lk kg_cd45 30 = some (33, 17, 3, 35, 0, []) ∧ kg_lk kg_cd45 33 = some (34, 0, 0, 0, 0, []) ∧ kg_lk kg_cd45 34 = some (35, 48, 0, 0, 0, []) ∧ kg_lk kg_cd45 35 = some (38, 6, 3, 1, 0, []) ∧ kg_lk kg_cd45 38 = some (41, 18, 0, 13, 0, []) ∧ kg_lk kg_cd45 41 = some (42, 0, 1, 0, 0, []) ∧ kg_lk kg_cd45 42 = some (43, 48, 0, 0, 0, []) := by refine ⟨?_, ?_, ?_, ?_, ?_, ?_, ?_, ?_, ?_, ?_, ?_, ?_, ?_, ?_, ?_, ?_, ?_, ?_, ?_, ?_, ?_, ?_, ?_, ?_, ?_, ?_, ?_⟩ <;> rfl
def kg_cd46 : kg_Cd := [(0, (1, 0, 0, 0, 0, [])), (1, (2, 4, 3, 0, 0, [])), (2, (3, 0, 0, 0, 0, [])), (3, (5, 4, 4, 0, 0, [])), (5, (7, 2, 4, 0, 0, [])), (7, (9, 0, 8, 0, 0, [])), (9, (12, 17, 3, 38, 0, [])), (12, (13, 3, 0, 0, 0, [])), (13, (16, 22, 4, 4, 29, [])), (16, (17, 2, 1, 0, 0, [])), (17, (19, 2, 4, 0, 0, [])), (19, (22, 41, 64, 2, 75, [])), (22, (25, 39, 7, 2, 139, [])), (25, (26, 2, 2, 0, 0, [])), (26, (29, 17, 1, 32, 0, [])), (29, (32, 6, 3, 1, 0, [])), (32, (35, 6, 4, 1, 0, [])), (35, (38, 18, 0, 5, 0, [])), (38, (39, 2, 3, 0, 0, [])), (39, (40, 48, 0, 0, 0, []))]
set_option maxRecDepth 100000 in
theorem kg_ok46 : kg_okc 4 false 5 cX4_keysOfKind kg_cd46 = true := by decide +kernel
set_option maxRecDepth 100000 in
theorem kg_lk46 : kg_lk kg_cd46 0 = some (1, 0, 0, 0, 0, []) ∧ kg_lk kg_cd46 1 = some (2, 4, 3, 0, 0, []) ∧ kg_lk kg_cd46 2 = some (3, 0, 0, 0, 0, []) ∧ kg_lk kg_cd46 3 = some (5, 4, 4, 0, 0, []) ∧ kg_lk kg_cd46 5 = some (7, 2, 4, 0, 0, []) ∧ kg_lk kg_cd46 7 = some (9, 0, 8, 0, 0, []) ∧ kg_lk kg_cd46 9 = some (12, 17, 3, 38, 0, []) ∧ kg_lk kg_cd46 12 = some (13, 3, 0, 0, 0, []) ∧ kg_lk kg_cd46 13 = some (16, 22, 4, 4, 29, []) ∧ kg_lk kg_cd46 16 = some (17, 2, 1, 0, 0, []) ∧ kg_lk kg_cd46 17 = some (19, 2, 4, 0, 0, []) ∧ kg_lk kg_cd46 19 = some (22, 41, 64, 2, 75, []) ∧ kg_lk kg_cd46 22 = some (25, 39, 7, 2, 139, []) ∧ kg_lk kg_cd46 25 = some (26, 2, 2, 0, 0, []) ∧ kg_lk kg_cd46 26 = some (29, 17, 1, 32, 0, []) ∧ kg_lk kg_cd46 29 = some (32, 6, 3, 1, 0, []) ∧ kg_lk kg_cd46 32 = some (35, 6, 4, 1, 0, []) ∧ kg_lk kg_cd46 35 = some (38, 18, 0, 5, 0, []) ∧ kg_lk kg_cd46 38 = some (39, 2, 3, 0, 0, []) ∧ kg_lk kg_cd46 39 = some (40, 48, 0, 0, 0, []) := by refine ⟨?_, ?_, ?_, ?_, ?_, ?_, ?_, ?_, ?_, ?_, ?_, ?_, ?_, ?_, ?_, ?_, ?_, ?_, ?_, ?_⟩ <;> rfl
def kg_cd47 : kg_Cd := [(0, (1, 0, 0, 0, 0, [])), (1, (2, 4, 2, 0, 0, [])), (2, (3, 0, 0, 0, 0, [])), (3, (4, 4, 3, 0, 0, [])), (4, (5, 2, 3, 0, 0, [])), (5, (7, 0, 8, 0, 0, [])), (7, (10, 17, 3, 28, 0, [])), (10, (11, 3, 0, 0, 0, [])), (11, (12, 2, 1, 0, 0, [])), (12, (13, 2, 3, 0, 0, [])), (13, (16, 39, 38, 3, 150, [])), (16, (19, 16, 0, 22, 0, [])), (19, (22, 6, 2, 1, 0, [])), (22, (25, 6, 3, 1, 0, [])), (25, (28, 18, 0, 4, 0, [])), (28, (29, 2, 2, 0, 0, [])), (29, (30, 48, 0, 0, 0, []))]
set_option maxRecDepth 100000 in
theorem kg_ok47 : kg_okc 4 false 4 cX4_ripeGraves kg_cd47 = true := by decide +kernel
set_option maxRecDepth 100000 in
theorem kg_lk47 : kg_lk kg_cd47 0 = some (1, 0, 0, 0, 0, []) ∧ kg_lk kg_cd47 1 = some (2, 4, 2, 0, 0, []) ∧ kg_lk kg_cd47 2 = some (3, 0, 0, 0, 0, []) ∧ kg_lk kg_cd47 3 = some (4, 4, 3, 0, 0, []) ∧ kg_lk kg_cd47 4 = some (5, 2, 3, 0, 0, []) ∧ kg_lk kg_cd47 5 = some (7, 0, 8, 0, 0, []) ∧ kg_lk kg_cd47 7 = some (10, 17, 3, 28, 0, []) ∧ kg_lk kg_cd47 10 = some (11, 3, 0, 0, 0, []) ∧ kg_lk kg_cd47 11 = some (12, 2, 1, 0, 0, []) ∧ kg_lk kg_cd47 12 = some (13, 2, 3, 0, 0, []) ∧ kg_lk kg_cd47 13 = some (16, 39, 38, 3, 150, []) ∧ kg_lk kg_cd47 16 = some (19, 16, 0, 22, 0, []) ∧ kg_lk kg_cd47 19 = some (22, 6, 2, 1, 0, []) ∧ kg_lk kg_cd47 22 = some (25, 6, 3, 1, 0, []) ∧ kg_lk kg_cd47 25 = some (28, 18, 0, 4, 0, []) ∧ kg_lk kg_cd47 28 = some (29, 2, 2, 0, 0, []) ∧ kg_lk kg_cd47 29 = some (30, 48, 0, 0, 0, []) := by refine ⟨?_, ?_, ?_, ?_, ?_, ?_, ?_, ?_, ?_, ?_, ?_, ?_, ?_, ?_, ?_, ?_, ?_⟩ <;> rfl
def kg_cd48 : kg_Cd := [(0, (1, 0, 0, 0, 0, [])), (1, (2, 4, 2, 0, 0, [])), (2, (3, 0, 0, 0, 0, [])), (3, (4, 4, 3, 0, 0, [])), (4, (5, 2, 3, 0, 0, [])), (5, (7, 0, 8, 0, 0, [])), (7, (10, 17, 3, 28, 0, [])), (10, (11, 3, 0, 0, 0, [])), (11, (12, 2, 1, 0, 0, [])), (12, (13, 2, 3, 0, 0, [])), (13, (16, 39, 31, 3, 97, [])), (16, (19, 16, 0, 22, 0, [])), (19, (22, 6, 2, 1, 0, [])), (22, (25, 6, 3, 1, 0, [])), (25, (28, 18, 0, 4, 0, [])), (28, (29, 2, 2, 0, 0, [])), (29, (30, 48, 0, 0, 0, []))]
set_option maxRecDepth 100000 in
theorem kg_ok48 : kg_okc 4 false 4 cX4_keysThatHaunt kg_cd48 = true := by decide +kernel
set_option maxRecDepth 100000 in
theorem kg_lk48 : kg_lk kg_cd48 0 = some (1, 0, 0, 0, 0, []) ∧ kg_lk kg_cd48 1 = some (2, 4, 2, 0, 0, []) ∧ kg_lk kg_cd48 2 = some (3, 0, 0, 0, 0, []) ∧ kg_lk kg_cd48 3 = some (4, 4, 3, 0, 0, []) ∧ kg_lk kg_cd48 4 = some (5, 2, 3, 0, 0, []) ∧ kg_lk kg_cd48 5 = some (7, 0, 8, 0, 0, []) ∧ kg_lk kg_cd48 7 = some (10, 17, 3, 28, 0, []) ∧ kg_lk kg_cd48 10 = some (11, 3, 0, 0, 0, []) ∧ kg_lk kg_cd48 11 = some (12, 2, 1, 0, 0, []) ∧ kg_lk kg_cd48 12 = some (13, 2, 3, 0, 0, []) ∧ kg_lk kg_cd48 13 = some (16, 39, 31, 3, 97, []) ∧ kg_lk kg_cd48 16 = some (19, 16, 0, 22, 0, []) ∧ kg_lk kg_cd48 19 = some (22, 6, 2, 1, 0, []) ∧ kg_lk kg_cd48 22 = some (25, 6, 3, 1, 0, []) ∧ kg_lk kg_cd48 25 = some (28, 18, 0, 4, 0, []) ∧ kg_lk kg_cd48 28 = some (29, 2, 2, 0, 0, []) ∧ kg_lk kg_cd48 29 = some (30, 48, 0, 0, 0, []) := by refine ⟨?_, ?_, ?_, ?_, ?_, ?_, ?_, ?_, ?_, ?_, ?_, ?_, ?_, ?_, ?_, ?_, ?_⟩ <;> rfl
def kg_cd49 : kg_Cd := [(0, (1, 0, 0, 0, 0, [])), (1, (2, 4, 1, 0, 0, [])), (2, (3, 0, 1, 0, 0, [])), (3, (4, 4, 2, 0, 0, [])), (4, (5, 0, 0, 0, 0, [])), (5, (6, 4, 3, 0, 0, [])), (6, (7, 2, 3, 0, 0, [])), (7, (8, 0, 4, 0, 0, [])), (8, (11, 17, 3, 67, 0, [])), (11, (12, 2, 3, 0, 0, [])), (12, (13, 0, 1, 0, 0, [])), (13, (14, 7, 0, 0, 0, [])), (14, (16, 4, 4, 0, 0, [])), (16, (18, 2, 4, 0, 0, [])), (18, (19, 0, 4, 0, 0, [])), (19, (22, 17, 3, 61, 0, [])), (22, (23, 3, 0, 0, 0, [])), (23, (26, 22, 4, 5, 33, [])), (26, (27, 2, 1, 0, 0, [])), (27, (28, 2, 2, 0, 0, [])), (28, (31, 41, 68, 2, 110, [])), (31, (32, 27, 0, 0, 0, [])), (32, (34, 4, 5, 0, 0, [])), (34, (35, 3, 0, 0, 0, [])), (35, (38, 22, 4, 5, 33, [])), (38, (39, 2, 3, 0, 0, [])), (39, (41, 2, 4, 0, 0, [])), (41, (44, 41, 68, 2, 110, [])), (44, (45, 27, 0, 0, 0, [])), (45, (47, 2, 5, 0, 0, [])), (47, (50, 17, 3, 55, 0, [])), (50, (51, 2, 3, 0, 0, [])), (51, (52, 4, 1, 0, 0, [])), (52, (54, 2, 4, 0, 0, [])), (54, (55, 4, 2, 0, 0, [])), (55, (58, 6, 4, 1, 0, [])), (58, (61, 18, 0, 16, 0, [])), (61, (64, 6, 3, 1, 0, [])), (64, (67, 18, 0, 6, 0, [])), (67, (68, 2, 1, 0, 0, [])), (68, (69, 0, 4, 0, 0, [])), (69, (70, 9, 0, 0, 0, [])), (70, (71, 2, 2, 0, 0, [])), (71, (72, 7, 0, 0, 0, [])), (72, (73, 48, 0, 0, 0, []))]
set_option maxRecDepth 100000 in
theorem kg_ok49 : kg_okc 4 false 6 cX4_slowestPair kg_cd49 = true := by decide +kernel
set_option maxRecDepth 100000 in
theorem kg_lk49 : kg_lk kg_cd49 0 = some (1, 0, 0, 0, 0, []) ∧ kg_lk kg_cd49 1 = some (2, 4, 1, 0, 0, []) ∧ kg_lk kg_cd49 2 = some (3, 0, 1, 0, 0, []) ∧ kg_lk kg_cd49 3 = some (4, 4, 2, 0, 0, []) ∧ kg_lk kg_cd49 4 = some (5, 0, 0, 0, 0, []) ∧ kg_lk kg_cd49 5 = some (6, 4, 3, 0, 0, []) ∧ kg_lk kg_cd49 6 = some (7, 2, 3, 0, 0, []) ∧ kg_lk kg_cd49 7 = some (8, 0, 4, 0, 0, []) ∧ kg_lk kg_cd49 8 = some (11, 17, 3, 67, 0, []) ∧ kg_lk kg_cd49 11 = some (12, 2, 3, 0, 0, []) ∧ kg_lk kg_cd49 12 = some (13, 0, 1, 0, 0, []) ∧ kg_lk kg_cd49 13 = some (14, 7, 0, 0, 0, []) ∧ kg_lk kg_cd49 14 = some (16, 4, 4, 0, 0, []) ∧ kg_lk kg_cd49 16 = some (18, 2, 4, 0, 0, []) ∧ kg_lk kg_cd49 18 = some (19, 0, 4, 0, 0, []) ∧ kg_lk kg_cd49 19 = some (22, 17, 3, 61, 0, []) ∧ kg_lk kg_cd49 22 = some (23, 3, 0, 0, 0, []) ∧ kg_lk kg_cd49 23 = some (26, 22, 4, 5, 33, []) ∧ kg_lk kg_cd49 26 = some (27, 2, 1, 0, 0, []) ∧ kg_lk kg_cd49 27 = some (28, 2, 2, 0, 0, []) ∧ kg_lk kg_cd49 28 = some (31, 41, 68, 2, 110, []) ∧ kg_lk kg_cd49 31 = some (32, 27, 0, 0, 0, []) ∧ kg_lk kg_cd49 32 = some (34, 4, 5, 0, 0, []) ∧ kg_lk kg_cd49 34 = some (35, 3, 0, 0, 0, []) ∧ kg_lk kg_cd49 35 = some (38, 22, 4, 5, 33, []) ∧ kg_lk kg_cd49 38 = some (39, 2, 3, 0, 0, []) ∧ kg_lk kg_cd49 39 = some (41, 2, 4, 0, 0, []) ∧ kg_lk kg_cd49 41 = some (44, 41, 68, 2, 110, []) ∧ kg_lk kg_cd49 44 = some (45, 27, 0, 0, 0, []) ∧ kg_lk kg_cd49 45 = some (47, 2, 5, 0, 0, []) ∧ kg_lk kg_cd49 47 = some (50, 17, 3, 55, 0, []) ∧ kg_lk kg_cd49 50 = some (51, 2, 3, 0, 0, []) ∧ kg_lk kg_cd49 51 = some (52, 4, 1, 0, 0, []) ∧ kg_lk kg_cd49 52 = some (54, 2, 4, 0, 0, []) ∧ kg_lk kg_cd49 54 = some (55, 4, 2, 0, 0, []) ∧ kg_lk kg_cd49 55 = some (58, 6, 4, 1, 0, []) ∧ kg_lk kg_cd49 58 = some (61, 18, 0, 16, 0, []) ∧ kg_lk kg_cd49 61 = some (64, 6, 3, 1, 0, []) ∧ kg_lk kg_cd49 64 = some (67, 18, 0, 6, 0, []) ∧ kg_lk kg_cd49 67 = some (68, 2, 1, 0, 0, []) ∧ kg_lk kg_cd49 68 = some (69, 0, 4, 0, 0, []) ∧ kg_lk kg_cd49 69 = some (70, 9, 0, 0, 0, []) ∧ kg_lk kg_cd49 70 = some (71, 2, 2, 0, 0, []) ∧ kg_lk kg_cd49 71 = some (72, 7, 0, 0, 0, []) ∧ kg_lk kg_cd49 72 = some (73, 48, 0, 0, 0, []) := by refine ⟨?_, ?_, ?_, ?_, ?_, ?_, ?_, ?_, ?_, ?_, ?_, ?_, ?_, ?_, ?_, ?_, ?_, ?_, ?_, ?_, ?_, ?_, ?_, ?_, ?_, ?_, ?_, ?_, ?_, ?_, ?_, ?_, ?_, ?_, ?_, ?_, ?_, ?_, ?_, ?_, ?_, ?_, ?_, ?_, ?_⟩ <;> rfl
def kg_cd50 : kg_Cd := [(0, (1, 0, 1, 0, 0, [])), (1, (2, 4, 1, 0, 0, [])), (2, (3, 0, 0, 0, 0, [])), (3, (4, 4, 2, 0, 0, [])), (4, (5, 2, 2, 0, 0, [])), (5, (6, 0, 4, 0, 0, [])), (6, (9, 17, 3, 51, 0, [])), (9, (10, 0, 0, 0, 0, [])), (10, (11, 4, 3, 0, 0, [])), (11, (12, 2, 3, 0, 0, [])), (12, (14, 0, 8, 0, 0, [])), (14, (17, 17, 3, 45, 0, [])), (17, (18, 3, 0, 0, 0, [])), (18, (19, 2, 2, 0, 0, [])), (19, (20, 2, 3, 0, 0, [])), (20, (23, 39, 51, 3, 169, [])), (23, (26, 16, 0, 39, 0, [])), (26, (27, 2, 1, 0, 0, [])), (27, (28, 3, 0, 0, 0, [])), (28, (29, 2, 2, 0, 0, [])), (29, (30, 2, 3, 0, 0, [])), (30, (33, 39, 39, 3, 147, [])), (33, (34, 0, 1, 0, 0, [])), (34, (35, 7, 0, 0, 0, [])), (35, (38, 46, 0, 0, 121, [])), (38, (39, 4, 1, 0, 0, [])), (39, (42, 6, 3, 1, 0, [])), (42, (45, 18, 0, 11, 0, [])), (45, (48, 6, 2, 1, 0, [])), (48, (51, 18, 0, 4, 0, [])), (51, (52, 2, 1, 0, 0, [])), (52, (53, 48, 0, 0, 0, []))]
set_option maxRecDepth 100000 in
theorem kg_ok50 : kg_okc 4 false 4 cX4_safeGrace kg_cd50 = true := by decide +kernel
set_option maxRecDepth 100000 in
theorem kg_lk50 : kg_lk kg_cd50 0 = some (1, 0, 1, 0, 0, []) ∧ kg_lk kg_cd50 1 = some (2, 4, 1, 0, 0, []) ∧ kg_lk kg_cd50 2 = some (3, 0, 0, 0, 0, []) ∧ kg_lk kg_cd50 3 = some (4, 4, 2, 0, 0, []) ∧ kg_lk kg_cd50 4 = some (5, 2, 2, 0, 0, []) ∧ kg_lk kg_cd50 5 = some (6, 0, 4, 0, 0, []) ∧ kg_lk kg_cd50 6 = some (9, 17, 3, 51, 0, []) ∧ kg_lk kg_cd50 9 = some (10, 0, 0, 0, 0, []) ∧ kg_lk kg_cd50 10 = some (11, 4, 3, 0, 0, []) ∧ kg_lk kg_cd50 11 = some (12, 2, 3, 0, 0, []) ∧ kg_lk kg_cd50 12 = some (14, 0, 8, 0, 0, []) ∧ kg_lk kg_cd50 14 = some (17, 17, 3, 45, 0, []) ∧ kg_lk kg_cd50 17 = some (18, 3, 0, 0, 0, []) ∧ kg_lk kg_cd50 18 = some (19, 2, 2, 0, 0, []) ∧ kg_lk kg_cd50 19 = some (20, 2, 3, 0, 0, []) ∧ kg_lk kg_cd50 20 = some (23, 39, 51, 3, 169, []) ∧ kg_lk kg_cd50 23 = some (26, 16, 0, 39, 0, []) ∧ kg_lk kg_cd50 26 = some (27, 2, 1, 0, 0, []) ∧ kg_lk kg_cd50 27 = some (28, 3, 0, 0, 0, []) ∧ kg_lk kg_cd50 28 = some (29, 2, 2, 0, 0, []) ∧ kg_lk kg_cd50 29 = some (30, 2, 3, 0, 0, []) ∧ kg_lk kg_cd50 30 = some (33, 39, 39, 3, 147, []) ∧ kg_lk kg_cd50 33 = some (34, 0, 1, 0, 0, []) ∧ kg_lk kg_cd50 34 = some (35, 7, 0, 0, 0, []) ∧ kg_lk kg_cd50 35 = some (38, 46, 0, 0, 121, []) ∧ kg_lk kg_cd50 38 = some (39, 4, 1, 0, 0, []) ∧ kg_lk kg_cd50 39 = some (42, 6, 3, 1, 0, []) ∧ kg_lk kg_cd50 42 = some (45, 18, 0, 11, 0, []) ∧ kg_lk kg_cd50 45 = some (48, 6, 2, 1, 0, []) ∧ kg_lk kg_cd50 48 = some (51, 18, 0, 4, 0, []) ∧ kg_lk kg_cd50 51 = some (52, 2, 1, 0, 0, []) ∧ kg_lk kg_cd50 52 = some (53, 48, 0, 0, 0, []) := by refine ⟨?_, ?_, ?_, ?_, ?_, ?_, ?_, ?_, ?_, ?_, ?_, ?_, ?_, ?_, ?_, ?_, ?_, ?_, ?_, ?_, ?_, ?_, ?_, ?_, ?_, ?_, ?_, ?_, ?_, ?_, ?_, ?_⟩ <;> rfl
def kg_cd51 : kg_Cd := [(0, (1, 3, 0, 0, 0, [])), (1, (2, 2, 1, 0, 0, [])), (2, (3, 2, 2, 0, 0, [])), (3, (6, 39, 32, 3, 144, [])), (6, (9, 16, 0, 22, 0, [])), (9, (10, 3, 0, 0, 0, [])), (10, (11, 2, 1, 0, 0, [])), (11, (12, 2, 2, 0, 0, [])), (12, (15, 39, 45, 3, 166, [])), (15, (18, 16, 1, 22, 0, [])), (18, (19, 0, 1, 0, 0, [])), (19, (22, 18, 0, 23, 0, [])), (22, (23, 0, 0, 0, 0, [])), (23, (24, 48, 0, 0, 0, []))]
set_option maxRecDepth 100000 in
theorem kg_ok51 : kg_okc 4 false 3 cX4_isUnsettledGrave kg_cd51 = true := by decide +kernel
set_option maxRecDepth 100000 in
theorem kg_lk51 : kg_lk kg_cd51 0 = some (1, 3, 0, 0, 0, []) ∧ kg_lk kg_cd51 1 = some (2, 2, 1, 0, 0, []) ∧ kg_lk kg_cd51 2 = some (3, 2, 2, 0, 0, []) ∧ kg_lk kg_cd51 3 = some (6, 39, 32, 3, 144, []) ∧ kg_lk kg_cd51 6 = some (9, 16, 0, 22, 0, []) ∧ kg_lk kg_cd51 9 = some (10, 3, 0, 0, 0, []) ∧ kg_lk kg_cd51 10 = some (11, 2, 1, 0, 0, []) ∧ kg_lk kg_cd51 11 = some (12, 2, 2, 0, 0, []) ∧ kg_lk kg_cd51 12 = some (15, 39, 45, 3, 166, []) ∧ kg_lk kg_cd51 15 = some (18, 16, 1, 22, 0, []) ∧ kg_lk kg_cd51 18 = some (19, 0, 1, 0, 0, []) ∧ kg_lk kg_cd51 19 = some (22, 18, 0, 23, 0, []) ∧ kg_lk kg_cd51 22 = some (23, 0, 0, 0, 0, []) ∧ kg_lk kg_cd51 23 = some (24, 48, 0, 0, 0, []) := by refine ⟨?_, ?_, ?_, ?_, ?_, ?_, ?_, ?_, ?_, ?_, ?_, ?_, ?_, ?_⟩ <;> rfl
def kg_cd52 : kg_Cd := [(0, (1, 0, 0, 0, 0, [])), (1, (2, 4, 1, 0, 0, [])), (2, (3, 0, 0, 0, 0, [])), (3, (4, 4, 2, 0, 0, [])), (4, (5, 2, 2, 0, 0, [])), (5, (6, 0, 4, 0, 0, [])), (6, (9, 17, 3, 24, 0, [])), (9, (10, 2, 1, 0, 0, [])), (10, (11, 3, 0, 0, 0, [])), (11, (12, 2, 2, 0, 0, [])), (12, (13, 0, 2, 0, 0, [])), (13, (16, 39, 46, 3, 178, [])), (16, (17, 7, 0, 0, 0, [])), (17, (18, 4, 1, 0, 0, [])), (18, (21, 6, 2, 1, 0, [])), (21, (24, 18, 0, 4, 0, [])), (24, (25, 2, 1, 0, 0, [])), (25, (26, 48, 0, 0, 0, []))]
set_option maxRecDepth 100000 in
theorem kg_ok52 : kg_okc 4 false 3 cX4_gravesOfAllNodes kg_cd52 = true := by decide +kernel
set_option maxRecDepth 100000 in
theorem kg_lk52 : kg_lk kg_cd52 0 = some (1, 0, 0, 0, 0, []) ∧ kg_lk kg_cd52 1 = some (2, 4, 1, 0, 0, []) ∧ kg_lk kg_cd52 2 = some (3, 0, 0, 0, 0, []) ∧ kg_lk kg_cd52 3 = some (4, 4, 2, 0, 0, []) ∧ kg_lk kg_cd52 4 = some (5, 2, 2, 0, 0, []) ∧ kg_lk kg_cd52 5 = some (6, 0, 4, 0, 0, []) ∧ kg_lk kg_cd52 6 = some (9, 17, 3, 24, 0, []) ∧ kg_lk kg_cd52 9 = some (10, 2, 1, 0, 0, []) ∧ kg_lk kg_cd52 10 = some (11, 3, 0, 0, 0, []) ∧ kg_lk kg_cd52 11 = some (12, 2, 2, 0, 0, []) ∧ kg_lk kg_cd52 12 = some (13, 0, 2, 0, 0, []) ∧ kg_lk kg_cd52 13 = some (16, 39, 46, 3, 178, []) ∧ kg_lk kg_cd52 16 = some (17, 7, 0, 0, 0, []) ∧ kg_lk kg_cd52 17 = some (18, 4, 1, 0, 0, []) ∧ kg_lk kg_cd52 18 = some (21, 6, 2, 1, 0, []) ∧ kg_lk kg_cd52 21 = some (24, 18, 0, 4, 0, []) ∧ kg_lk kg_cd52 24 = some (25, 2, 1, 0, 0, []) ∧ kg_lk kg_cd52 25 = some (26, 48, 0, 0, 0, []) := by refine ⟨?_, ?_, ?_, ?_, ?_, ?_, ?_, ?_, ?_, ?_, ?_, ?_, ?_, ?_, ?_, ?_, ?_, ?_⟩ <;> rfl
def kg_cd53 : kg_Cd := [(0, (1, 0, 0, 0, 0, [])), (1, (2, 4, 1, 0, 0, [])), (2, (3, 0, 0, 0, 0, [])), (3, (4, 4, 2, 0, 0, [])), (4, (5, 2, 2, 0, 0, [])), (5, (7, 0, 8, 0, 0, [])), (7, (10, 17, 3, 27, 0, [])), (10, (11, 3, 0, 0, 0, [])), (11, (12, 2, 2, 0, 0, [])), (12, (15, 39, 44, 2, 175, [])), (15, (18, 16, 5, 21, 0, [])), (18, (21, 6, 1, 1, 0, [])), (21, (24, 6, 2, 1, 0, [])), (24, (27, 18, 0, 4, 0, [])), (27, (28, 2, 1, 0, 0, [])), (28, (29, 48, 0, 0, 0, []))]
set_option maxRecDepth 100000 in
theorem kg_ok53 : kg_okc 4 false 3 cX4_hauntingKeys kg_cd53 = true := by decide +kernel
set_option maxRecDepth 100000 in
theorem kg_lk53 : kg_lk kg_cd53 0 = some (1, 0, 0, 0, 0, []) ∧ kg_lk kg_cd53 1 = some (2, 4, 1, 0, 0, []) ∧ kg_lk kg_cd53 2 = some (3, 0, 0, 0, 0, []) ∧ kg_lk kg_cd53 3 = some (4, 4, 2, 0, 0, []) ∧ kg_lk kg_cd53 4 = some (5, 2, 2, 0, 0, []) ∧ kg_lk kg_cd53 5 = some (7, 0, 8, 0, 0, []) ∧ kg_lk kg_cd53 7 = some (10, 17, 3, 27, 0, []) ∧ kg_lk kg_cd53 10 = some (11, 3, 0, 0, 0, []) ∧ kg_lk kg_cd53 11 = some (12, 2, 2, 0, 0, []) ∧ kg_lk kg_cd53 12 = some (15, 39, 44, 2, 175, []) ∧ kg_lk kg_cd53 15 = some (18, 16, 5, 21, 0, []) ∧ kg_lk kg_cd53 18 = some (21, 6, 1, 1, 0, []) ∧ kg_lk kg_cd53 21 = some (24, 6, 2, 1, 0, []) ∧ kg_lk kg_cd53 24 = some (27, 18, 0, 4, 0, []) ∧ kg_lk kg_cd53 27 = some (28, 2, 1, 0, 0, []) ∧ kg_lk kg_cd53 28 = some (29, 48, 0, 0, 0, []) := by refine ⟨?_, ?_, ?_, ?_, ?_, ?_, ?_, ?_, ?_, ?_, ?_, ?_, ?_, ?_, ?_, ?_⟩ <;> rfl
def kg_cd54 : kg_Cd := [(0, (1, 0, 0, 0, 0, [])), (1, (2, 4, 1, 0, 0, [])), (2, (3, 0, 0, 0, 0, [])), (3, (4, 4, 2, 0, 0, [])), (4, (5, 2, 2, 0, 0, [])), (5, (6, 0, 4, 0, 0, [])), (6, (9, 17, 3, 50, 0, [])), (9, (10, 0, 0, 0, 0, [])), (10, (11, 4, 3, 0, 0, [])), (11, (12, 2, 3, 0, 0, [])), (12, (14, 0, 8, 0, 0, [])), (14, (17, 17, 3, 44, 0, [])), (17, (18, 3, 0, 0, 0, [])), (18, (19, 2, 2, 0, 0, [])), (19, (20, 2, 3, 0, 0, [])), (20, (23, 39, 51, 3, 169, [])), (23, (26, 16, 0, 38, 0, [])), (26, (27, 3, 0, 0, 0, [])), (27, (28, 2, 2, 0, 0, [])), (28, (29, 2, 3, 0, 0, [])), (29, (32, 39, 55, 3, 172, [])), (32, (35, 16, 1, 38, 0, [])), (35, (38, 6, 1, 1, 0, [])), (38, (41, 6, 3, 1, 0, [])), (41, (44, 18, 0, 11, 0, [])), (44, (47, 6, 2, 1, 0, [])), (47, (50, 18, 0, 4, 0, [])), (50, (51, 2, 1, 0, 0, [])), (51, (52, 48, 0, 0, 0, []))]
set_option maxRecDepth 100000 in
theorem kg_ok54 : kg_okc 4 false 4 cX4_gravesNotSettled kg_cd54 = true := by decide +kernel
set_option maxRecDepth 100000 in
theorem kg_lk54 : kg_lk kg_cd54 0 = some (1, 0, 0, 0, 0, []) ∧ kg_lk kg_cd54 1 = some (2, 4, 1, 0, 0, []) ∧ kg_lk kg_cd54 2 = some (3, 0, 0, 0, 0, []) ∧ kg_lk kg_cd54 3 = some (4, 4, 2, 0, 0, []) ∧ kg_lk kg_cd54 4 = some (5, 2, 2, 0, 0, []) ∧ kg_lk kg_cd54 5 = some (6, 0, 4, 0, 0, []) ∧ kg_lk kg_cd54 6 = some (9, 17, 3, 50, 0, []) ∧ kg_lk kg_cd54 9 = some (10, 0, 0, 0, 0, []) ∧ kg_lk kg_cd54 10 = some (11, 4, 3, 0, 0, []) ∧ kg_lk kg_cd54 11 = some (12, 2, 3, 0, 0, []) ∧ kg_lk kg_cd54 12 = some (14, 0, 8, 0, 0, []) ∧ kg_lk kg_cd54 14 = some (17, 17, 3, 44, 0, []) ∧ kg_lk kg_cd54 17 = some (18, 3, 0, 0, 0, []) ∧ kg_lk kg_cd54 18 = some (19, 2, 2, 0, 0, []) ∧ kg_lk kg_cd54 19 = some (20, 2, 3, 0, 0, []) ∧ kg_lk kg_cd54 20 = some (23, 39, 51, 3, 169, []) ∧ kg_lk kg_cd54 23 = some (26, 16, 0, 38, 0, []) ∧ kg_lk kg_cd54 26 = some (27, 3, 0, 0, 0, []) ∧ kg_lk kg_cd54 27 = some (28, 2, 2, 0, 0, []) ∧ kg_lk kg_cd54 28 = some (29, 2, 3, 0, 0, []) ∧ kg_lk kg_cd54 29 = some (32, 39, 55, 3, 172, []) ∧ kg_lk kg_cd54 32 = some (35, 16, 1, 38, 0, []) ∧ kg_lk kg_cd54 35 = some (38, 6, 1, 1, 0, []) ∧ kg_lk kg_cd54 38 = some (41, 6, 3, 1, 0, []) ∧ kg_lk kg_cd54 41 = some (44, 18, 0, 11, 0, []) ∧ kg_lk kg_cd54 44 = some (47, 6, 2, 1, 0, []) ∧ kg_lk kg_cd54 47 = some (50, 18, 0, 4, 0, []) ∧ kg_lk kg_cd54 50 = some (51, 2, 1, 0, 0, []) ∧ kg_lk kg_cd54 51 = some (52, 48, 0, 0, 0, []) := by refine ⟨?_, ?_, ?_, ?_, ?_, ?_, ?_, ?_, ?_, ?_, ?_, ?_, ?_, ?_, ?_, ?_, ?_, ?_, ?_, ?_, ?_, ?_, ?_, ?_, ?_, ?_, ?_, ?_, ?_⟩ <;> rfl
def kg_cd55 : kg_Cd := [(0, (1, 0, 0, 0, 0, [])), (1, (2, 4, 3, 0, 0, [])), (2, (3, 2, 3, 0, 0, [])), (3, (4, 2, 1, 0, 0, [])), (4, (7, 17, 3, 30, 0, [])), (7, (8, 3, 0, 0, 0, [])), (8, (9, 2, 3, 0, 0, [])), (9, (10, 2, 2, 0, 0, [])), (10, (13, 39, 27, 3, 87, [])), (13, (14, 3, 0, 0, 0, [])), (14, (15, 2, 1, 0, 0, [])), (15, (16, 2, 2, 0, 0, [])), (16, (19, 39, 27, 3, 87, [])), (19, (22, 17, 1, 24, 0, [])), (22, (23, 0, 1, 0, 0, [])), (23, (24, 48, 0, 0, 0, [])), (24, (27, 6, 3, 1, 0, [])), (27, (30, 18, 0, 2, 0, [])), (30, (31, 0, 0, 0, 0, [])), (31, (32, 48, 0, 0, 0, []))]
set_option maxRecDepth 100000 in
theorem kg_ok55 : kg_okc 4 false 4 cX4_lowerNodeKnowsSame kg_cd55 = true := by decide +kernel
set_option maxRecDepth 100000 in
theorem kg_lk55 : kg_lk kg_cd55 0 = some (1, 0, 0, 0, 0, []) ∧ kg_lk kg_cd55 1 = some (2, 4, 3, 0, 0, []) ∧ kg_lk kg_cd55 2 = some (3, 2, 3, 0, 0, []) ∧ kg_lk kg_cd55 3 = some (4, 2, 1, 0, 0, []) ∧ kg_lk kg_cd55 4 = some (7, 17, 3, 30, 0, []) ∧ kg_lk kg_cd55 7 = some (8, 3, 0, 0, 0, []) ∧ kg_lk kg_cd55 8 = some (9, 2, 3, 0, 0, []) ∧ kg_lk kg_cd55 9 = some (10, 2, 2, 0, 0, []) ∧ kg_lk kg_cd55 10 = some (13, 39, 27, 3, 87, []) ∧ kg_lk kg_cd55 13 = some (14, 3, 0, 0, 0, []) ∧ kg_lk kg_cd55 14 = some (15, 2, 1, 0, 0, []) ∧ kg_lk kg_cd55 15 = some (16, 2, 2, 0, 0, []) ∧ kg_lk kg_cd55 16 = some (19, 39, 27, 3, 87, []) ∧ kg_lk kg_cd55 19 = some (22, 17, 1, 24, 0, []) ∧ kg_lk kg_cd55 22 = some (23, 0, 1, 0, 0, []) ∧ kg_lk kg_cd55 23 = some (24, 48, 0, 0, 0, []) ∧ kg_lk kg_cd55 24 = some (27, 6, 3, 1, 0, []) ∧ kg_lk kg_cd55 27 = some (30, 18, 0, 2, 0, []) ∧ kg_lk kg_cd55 30 = some (31, 0, 0, 0, 0, []) ∧ kg_lk kg_cd55 31 = some (32, 48, 0, 0, 0, []) := by refine ⟨?_, ?_, ?_, ?_, ?_, ?_, ?_, ?_, ?_, ?_, ?_, ?_, ?_, ?_, ?_, ?_, ?_, ?_, ?_, ?_⟩ <;> rfl
end
section
/-! the rows of the methods as numbers (printed by wip/p28/gen10.py) -/
def kg_cd56 : kg_Cd := [(0, (1, 3, 0, 0, 0, [])), (1, (4, 44, 0, 0, 3, [])), (4, (5, 3, 0, 0, 0, [])), (5, (8, 36, 4, 0, 9, [])), (8, (9, 13, 0, 0, 0, [])), (9, (12, 42, 21, 0, 11, [])), (12, (15, 25, 5, 0, 12, [])), (15, (16, 3, 0, 0, 0, [])), (16, (17, 0, 4, 0, 0, [])), (17, (20, 38, 0, 0, 9, [])), (20, (23, 25, 5, 1, 16, [])), (23, (24, 0, 0, 0, 0, [])), (24, (25, 4, 1, 0, 0, [])), (25, (26, 2, 1, 0, 0, [])), (26, (27, 0, 4, 0, 0, [])), (27, (30, 17, 3, 49, 0, [])), (30, (31, 3, 0, 0, 0, [])), (31, (34, 22, 5, 1, 16, [])), (34, (35, 2, 1, 0, 0, [])), (35, (38, 36, 4, 0, 9, [])), (38, (39, 13, 0, 0, 0, [])), (39, (42, 42, 21, 0, 11, [])), (42, (43, 34, 0, 0, 0, [])), (43, (46, 6, 1, 1, 0, [])), (46, (49, 18, 0, 25, 0, [])), (49, (50, 3, 0, 0, 0, [])), (50, (51, 0, 0, 0, 0, [])), (51, (54, 23, 5, 2, 20, [])), (54, (55, 3, 0, 0, 0, [])), (55, (58, 36, 4, 0, 9, [])), (58, (59, 13, 0, 0, 0, [])), (59, (62, 42, 21, 0, 11, [])), (62, (65, 25, 5, 3, 24, [])), (65, (66, 3, 0, 0, 0, [])), (66, (67, 0, 0, 0, 0, [])), (67, (70, 24, 5, 4, 27, [])), (70, (71, 3, 0, 0, 0, [])), (71, (74, 36, 3, 0, 31, [])), (74, (75, 13, 0, 0, 0, [])), (75, (78, 43, 14, 0, 33, [])), (78, (81, 25, 5, 5, 34, [])), (81, (82, 49, 0, 0, 0, []))]
set_option maxRecDepth 100000 in
theorem kg_ok56 : kg_okc 5 true 2 cX5_init kg_cd56 = true := by decide +kernel
set_option maxRecDepth 100000 in
theorem kg_lk56 : kg_lk kg_cd56 0 = some (1, 3, 0, 0, 0, []) ∧ kg_lk kg_cd56 1 = some (4, 44, 0, 0, 3, []) ∧ kg_lk kg_cd56 4 = some (5, 3, 0, 0, 0, []) ∧ kg_lk kg_cd56 5 = some (8, 36, 4, 0, 9, []) ∧ kg_lk kg_cd56 8 = some (9, 13, 0, 0, 0, []) ∧ kg_lk kg_cd56 9 = some (12, 42, 21, 0, 11, []) ∧ kg_lk kg_cd56 12 = some (15, 25, 5, 0, 12, []) ∧ kg_lk kg_cd56 15 = some (16, 3, 0, 0, 0, []) ∧ kg_lk kg_cd56 16 = some (17, 0, 4, 0, 0, []) ∧ kg_lk kg_cd56 17 = some (20, 38, 0, 0, 9, []) ∧ kg_lk kg_cd56 20 = some (23, 25, 5, 1, 16, []) ∧ kg_lk kg_cd56 23 = some (24, 0, 0, 0, 0, []) ∧ kg_lk kg_cd56 24 = some (25, 4, 1, 0, 0, []) ∧ kg_lk kg_cd56 25 = some (26, 2, 1, 0, 0, []) ∧ kg_lk kg_cd56 26 = some (27, 0, 4, 0, 0, []) ∧ kg_lk kg_cd56 27 = some (30, 17, 3, 49, 0, []) ∧ kg_lk kg_cd56 30 = some (31, 3, 0, 0, 0, []) ∧ kg_lk kg_cd56 31 = some (34, 22, 5, 1, 16, []) ∧ kg_lk kg_cd56 34 = some (35, 2, 1, 0, 0, []) ∧ kg_lk kg_cd56 35 = some (38, 36, 4, 0, 9, []) ∧ kg_lk kg_cd56 38 = some (39, 13, 0, 0, 0, []) ∧ kg_lk kg_cd56 39 = some (42, 42, 21, 0, 11, []) ∧ kg_lk kg_cd56 42 = some (43, 34, 0, 0, 0, []) ∧ kg_lk kg_cd56 43 = some (46, 6, 1, 1, 0, []) ∧ kg_lk kg_cd56 46 = some (49, 18, 0, 25, 0, []) ∧ kg_lk kg_cd56 49 = some (50, 3, 0, 0, 0, []) ∧ kg_lk kg_cd56 50 = some (51, 0, 0, 0, 0, []) ∧ kg_lk kg_cd56 51 = some (54, 23, 5, 2, 20, []) ∧ kg_lk kg_cd56 54 = some (55, 3, 0, 0, 0, []) ∧ kg_lk kg_cd56 55 = some (58, 36, 4, 0, 9, []) ∧ kg_lk kg_cd56 58 = some (59, 13, 0, 0, 0, []) ∧ kg_lk kg_cd56 59 = some (62, 42, 21, 0, 11, []) ∧ kg_lk kg_cd56 62 = some (65, 25, 5, 3, 24, []) ∧ kg_lk kg_cd56 65 = some (66, 3, 0, 0, 0, []) ∧ kg_lk kg_cd56 66 = some (67, 0, 0, 0, 0, []) ∧ kg_lk kg_cd56 67 = some (70, 24, 5, 4, 27, []) ∧ kg_lk kg_cd56 70 = some (71, 3, 0, 0, 0, []) ∧ kg_lk kg_cd56 71 = some (74, 36, 3, 0, 31, []) ∧ kg_lk kg_cd56 74 = some (75, 13, 0, 0, 0, []) ∧ kg_lk kg_cd56 75 = some (78, 43, 14, 0, 33, []) ∧ kg_lk kg_cd56 78 = some (81, 25, 5, 5, 34, []) ∧ kg_lk kg_cd56 81 = some (82, 49, 0, 0, 0, []) := by refine ⟨?_, ?_, ?_, ?_, ?_, ?_, ?_, ?_, ?_, ?_, ?_, ?_, ?_, ?_, ?_, ?_, ?_, ?_, ?_, ?_, ?_, ?_, ?_, ?_, ?_, ?_, ?_, ?_, ?_, ?_, ?_, ?_, ?_, ?_, ?_, ?_, ?_, ?_, ?_, ?_, ?_, ?_⟩ <;> rfl
def kg_cd57 : kg_Cd := [(0, (1, 2, 1, 0, 0, [])), (1, (4, 40, 58, 1, 38, [])), (4, (7, 16, 1, 9, 0, [])), (7, (8, 1, 1, 0, 0, [])), (8, (9, 48, 0, 0, 0, [])), (9, (10, 2, 2, 0, 0, [])), (10, (13, 26, 1001, 0, 42, [])), (13, (14, 2, 1, 0, 0, [])), (14, (15, 27, 0, 0, 0, [])), (15, (18, 17, 2, 27, 0, [])), (18, (19, 2, 2, 0, 0, [])), (19, (22, 26, 1002, 0, 46, [])), (22, (23, 2, 1, 0, 0, [])), (23, (24, 27, 0, 0, 0, [])), (24, (27, 17, 5, 30, 0, [])), (27, (29, 1, 2, 0, 0, [])), (29, (30, 48, 0, 0, 0, [])), (30, (31, 3, 0, 0, 0, [])), (31, (34, 22, 5, 0, 12, [])), (34, (37, 22, 4, 2, 49, [])), (37, (38, 2, 1, 0, 0, [])), (38, (39, 27, 0, 0, 0, [])), (39, (40, 4, 3, 0, 0, [])), (40, (41, 2, 3, 0, 0, [])), (41, (42, 2, 2, 0, 0, [])), (42, (45, 17, 1, 48, 0, [])), (45, (47, 1, 5, 0, 0, [])), (47, (48, 48, 0, 0, 0, [])), (48, (49, 3, 0, 0, 0, [])), (49, (52, 39, 59, 1, 52, [])), (52, (53, 3, 0, 0, 0, [])), (53, (56, 22, 5, 0, 12, [])), (56, (59, 22, 4, 2, 49, [])), (59, (60, 2, 1, 0, 0, [])), (60, (61, 2, 2, 0, 0, [])), (61, (62, 31, 0, 0, 0, [])), (62, (63, 2, 3, 0, 0, [])), (63, (64, 48, 0, 0, 0, []))]
set_option maxRecDepth 100000 in
theorem kg_ok57 : kg_okc 5 false 4 cX5_set kg_cd57 = true := by decide +kernel
set_option maxRecDepth 100000 in
theorem kg_lk57 : kg_lk kg_cd57 0 = some (1, 2, 1, 0, 0, []) ∧ kg_lk kg_cd57 1 = some (4, 40, 58, 1, 38, []) ∧ kg_lk kg_cd57 4 = some (7, 16, 1, 9, 0, []) ∧ kg_lk kg_cd57 7 = some (8, 1, 1, 0, 0, []) ∧ kg_lk kg_cd57 8 = some (9, 48, 0, 0, 0, []) ∧ kg_lk kg_cd57 9 = some (10, 2, 2, 0, 0, []) ∧ kg_lk kg_cd57 10 = some (13, 26, 1001, 0, 42, []) ∧ kg_lk kg_cd57 13 = some (14, 2, 1, 0, 0, []) ∧ kg_lk kg_cd57 14 = some (15, 27, 0, 0, 0, []) ∧ kg_lk kg_cd57 15 = some (18, 17, 2, 27, 0, []) ∧ kg_lk kg_cd57 18 = some (19, 2, 2, 0, 0, []) ∧ kg_lk kg_cd57 19 = some (22, 26, 1002, 0, 46, []) ∧ kg_lk kg_cd57 22 = some (23, 2, 1, 0, 0, []) ∧ kg_lk kg_cd57 23 = some (24, 27, 0, 0, 0, []) ∧ kg_lk kg_cd57 24 = some (27, 17, 5, 30, 0, []) ∧ kg_lk kg_cd57 27 = some (29, 1, 2, 0, 0, []) ∧ kg_lk kg_cd57 29 = some (30, 48, 0, 0, 0, []) ∧ kg_lk kg_cd57 30 = some (31, 3, 0, 0, 0, []) ∧ kg_lk kg_cd57 31 = some (34, 22, 5, 0, 12, []) ∧ kg_lk kg_cd57 34 = some (37, 22, 4, 2, 49, []) ∧ kg_lk kg_cd57 37 = some (38, 2, 1, 0, 0, []) ∧ kg_lk kg_cd57 38 = some (39, 27, 0, 0, 0, []) ∧ kg_lk kg_cd57 39 = some (40, 4, 3, 0, 0, []) ∧ kg_lk kg_cd57 40 = some (41, 2, 3, 0, 0, []) ∧ kg_lk kg_cd57 41 = some (42, 2, 2, 0, 0, []) ∧ kg_lk kg_cd57 42 = some (45, 17, 1, 48, 0, []) ∧ kg_lk kg_cd57 45 = some (47, 1, 5, 0, 0, []) ∧ kg_lk kg_cd57 47 = some (48, 48, 0, 0, 0, []) ∧ kg_lk kg_cd57 48 = some (49, 3, 0, 0, 0, []) ∧ kg_lk kg_cd57 49 = some (52, 39, 59, 1, 52, []) ∧ kg_lk kg_cd57 52 = some (53, 3, 0, 0, 0, []) ∧ kg_lk kg_cd57 53 = some (56, 22, 5, 0, 12, []) ∧ kg_lk kg_cd57 56 = some (59, 22, 4, 2, 49, []) ∧ kg_lk kg_cd57 59 = some (60, 2, 1, 0, 0, []) ∧ kg_lk kg_cd57 60 = some (61, 2, 2, 0, 0, []) ∧ kg_lk kg_cd57 61 = some (62, 31, 0, 0, 0, []) ∧ kg_lk kg_cd57 62 = some (63, 2, 3, 0, 0, []) ∧ kg_lk kg_cd57 63 = some (64, 48, 0, 0, 0, []) := by refine ⟨?_, ?_, ?_, ?_, ?_, ?_, ?_, ?_, ?_, ?_, ?_, ?_, ?_, ?_, ?_, ?_, ?_, ?_, ?_, ?_, ?_, ?_, ?_, ?_, ?_, ?_, ?_, ?_, ?_, ?_, ?_, ?_, ?_, ?_, ?_, ?_, ?_, ?_⟩ <;> rfl
def kg_cd58 : kg_Cd := [(0, (1, 2, 0, 0, 0, [])), (1, (4, 16, 2, 13, 0, [])), (4, (5, 2, 0, 0, 0, [])), (5, (6, 0, 5, 0, 0, [])), (6, (9, 17, 3, 13, 0, [])), (9, (10, 0, 1, 0, 0, [])), (10, (13, 18, 0, 14, 0, [])), (13, (14, 0, 0, 0, 0, [])), (14, (15, 48, 0, 0, 0, []))]
set_option maxRecDepth 100000 in
theorem kg_ok58 : kg_okc 5 false 1 cX5_isSetting kg_cd58 = true := by decide +kernel
set_option maxRecDepth 100000 in
theorem kg_lk58 : kg_lk kg_cd58 0 = some (1, 2, 0, 0, 0, []) ∧ kg_lk kg_cd58 1 = some (4, 16, 2, 13, 0, []) ∧ kg_lk kg_cd58 4 = some (5, 2, 0, 0, 0, []) ∧ kg_lk kg_cd58 5 = some (6, 0, 5, 0, 0, []) ∧ kg_lk kg_cd58 6 = some (9, 17, 3, 13, 0, []) ∧ kg_lk kg_cd58 9 = some (10, 0, 1, 0, 0, []) ∧ kg_lk kg_cd58 10 = some (13, 18, 0, 14, 0, []) ∧ kg_lk kg_cd58 13 = some (14, 0, 0, 0, 0, []) ∧ kg_lk kg_cd58 14 = some (15, 48, 0, 0, 0, []) := by refine ⟨?_, ?_, ?_, ?_, ?_, ?_, ?_, ?_, ?_⟩ <;> rfl
def kg_cd59 : kg_Cd := [(0, (1, 3, 0, 0, 0, [])), (1, (4, 21, 5, 2, 20, [])), (4, (5, 0, 4, 0, 0, [])), (5, (8, 17, 2, 54, 0, [])), (8, (9, 3, 0, 0, 0, [])), (9, (12, 22, 5, 1, 16, [])), (12, (13, 0, 0, 0, 0, [])), (13, (14, 30, 0, 0, 0, [])), (14, (15, 5, 1, 0, 0, [])), (15, (16, 0, 1, 0, 0, [])), (16, (17, 4, 2, 0, 0, [])), (17, (18, 2, 2, 0, 0, [])), (18, (19, 0, 4, 0, 0, [])), (19, (22, 17, 3, 42, 0, [])), (22, (23, 3, 0, 0, 0, [])), (23, (26, 22, 5, 1, 16, [])), (26, (27, 2, 2, 0, 0, [])), (27, (28, 0, 1, 0, 0, [])), (28, (29, 8, 0, 0, 0, [])), (29, (30, 3, 0, 0, 0, [])), (30, (33, 22, 5, 1, 16, [])), (33, (34, 2, 2, 0, 0, [])), (34, (35, 30, 0, 0, 0, [])), (35, (36, 34, 0, 0, 0, [])), (36, (39, 6, 2, 1, 0, [])), (39, (42, 18, 0, 17, 0, [])), (42, (43, 3, 0, 0, 0, [])), (43, (46, 22, 5, 1, 16, [])), (46, (47, 0, 3, 0, 0, [])), (47, (48, 3, 1, 0, 0, [])), (48, (49, 34, 0, 0, 0, [])), (49, (50, 3, 0, 0, 0, [])), (50, (51, 0, 3, 0, 0, [])), (51, (54, 23, 5, 2, 20, [])), (54, (55, 3, 0, 0, 0, [])), (55, (58, 22, 5, 1, 16, [])), (58, (59, 3, 0, 0, 0, [])), (59, (62, 21, 5, 2, 20, [])), (62, (63, 30, 0, 0, 0, [])), (63, (64, 3, 0, 0, 0, [])), (64, (67, 22, 5, 0, 12, [])), (67, (70, 39, 22, 2, 144, [])), (70, (71, 3, 0, 0, 0, [])), (71, (72, 13, 0, 0, 0, [])), (72, (75, 21, 5, 2, 20, [])), (75, (76, 0, 1, 0, 0, [])), (76, (77, 7, 0, 0, 0, [])), (77, (80, 23, 5, 2, 20, [])), (80, (81, 49, 0, 0, 0, []))]
set_option maxRecDepth 100000 in
theorem kg_ok59 : kg_okc 5 false 3 cX5_record kg_cd59 = true := by decide +kernel
set_option maxRecDepth 100000 in
theorem kg_lk59 : kg_lk kg_cd59 0 = some (1, 3, 0, 0, 0, []) ∧ kg_lk kg_cd59 1 = some (4, 21, 5, 2, 20, []) ∧ kg_lk kg_cd59 4 = some (5, 0, 4, 0, 0, []) ∧ kg_lk kg_cd59 5 = some (8, 17, 2, 54, 0, []) ∧ kg_lk kg_cd59 8 = some (9, 3, 0, 0, 0, []) ∧ kg_lk kg_cd59 9 = some (12, 22, 5, 1, 16, []) ∧ kg_lk kg_cd59 12 = some (13, 0, 0, 0, 0, []) ∧ kg_lk kg_cd59 13 = some (14, 30, 0, 0, 0, []) ∧ kg_lk kg_cd59 14 = some (15, 5, 1, 0, 0, []) ∧ kg_lk kg_cd59 15 = some (16, 0, 1, 0, 0, []) ∧ kg_lk kg_cd59 16 = some (17, 4, 2, 0, 0, []) ∧ kg_lk kg_cd59 17 = some (18, 2, 2, 0, 0, []) ∧ kg_lk kg_cd59 18 = some (19, 0, 4, 0, 0, []) ∧ kg_lk kg_cd59 19 = some (22, 17, 3, 42, 0, []) ∧ kg_lk kg_cd59 22 = some (23, 3, 0, 0, 0, []) ∧ kg_lk kg_cd59 23 = some (26, 22, 5, 1, 16, []) ∧ kg_lk kg_cd59 26 = some (27, 2, 2, 0, 0, []) ∧ kg_lk kg_cd59 27 = some (28, 0, 1, 0, 0, []) ∧ kg_lk kg_cd59 28 = some (29, 8, 0, 0, 0, []) ∧ kg_lk kg_cd59 29 = some (30, 3, 0, 0, 0, []) ∧ kg_lk kg_cd59 30 = some (33, 22, 5, 1, 16, []) ∧ kg_lk kg_cd59 33 = some (34, 2, 2, 0, 0, []) ∧ kg_lk kg_cd59 34 = some (35, 30, 0, 0, 0, []) ∧ kg_lk kg_cd59 35 = some (36, 34, 0, 0, 0, []) ∧ kg_lk kg_cd59 36 = some (39, 6, 2, 1, 0, []) ∧ kg_lk kg_cd59 39 = some (42, 18, 0, 17, 0, []) ∧ kg_lk kg_cd59 42 = some (43, 3, 0, 0, 0, []) ∧ kg_lk kg_cd59 43 = some (46, 22, 5, 1, 16, []) ∧ kg_lk kg_cd59 46 = some (47, 0, 3, 0, 0, []) ∧ kg_lk kg_cd59 47 = some (48, 3, 1, 0, 0, []) ∧ kg_lk kg_cd59 48 = some (49, 34, 0, 0, 0, []) ∧ kg_lk kg_cd59 49 = some (50, 3, 0, 0, 0, []) ∧ kg_lk kg_cd59 50 = some (51, 0, 3, 0, 0, []) ∧ kg_lk kg_cd59 51 = some (54, 23, 5, 2, 20, []) ∧ kg_lk kg_cd59 54 = some (55, 3, 0, 0, 0, []) ∧ kg_lk kg_cd59 55 = some (58, 22, 5, 1, 16, []) ∧ kg_lk kg_cd59 58 = some (59, 3, 0, 0, 0, []) ∧ kg_lk kg_cd59 59 = some (62, 21, 5, 2, 20, []) ∧ kg_lk kg_cd59 62 = some (63, 30, 0, 0, 0, []) ∧ kg_lk kg_cd59 63 = some (64, 3, 0, 0, 0, []) ∧ kg_lk kg_cd59 64 = some (67, 22, 5, 0, 12, []) ∧ kg_lk kg_cd59 67 = some (70, 39, 22, 2, 144, []) ∧ kg_lk kg_cd59 70 = some (71, 3, 0, 0, 0, []) ∧ kg_lk kg_cd59 71 = some (72, 13, 0, 0, 0, []) ∧ kg_lk kg_cd59 72 = some (75, 21, 5, 2, 20, []) ∧ kg_lk kg_cd59 75 = some (76, 0, 1, 0, 0, []) ∧ kg_lk kg_cd59 76 = some (77, 7, 0, 0, 0, []) ∧ kg_lk kg_cd59 77 = some (80, 23, 5, 2, 20, []) ∧ kg_lk kg_cd59 80 = some (81, 49, 0, 0, 0, []) := by refine ⟨?_, ?_, ?_, ?_, ?_, ?_, ?_, ?_, ?_, ?_, ?_, ?_, ?_, ?_, ?_, ?_, ?_, ?_, ?_, ?_, ?_, ?_, ?_, ?_, ?_, ?_, ?_, ?_, ?_, ?_, ?_, ?_, ?_, ?_, ?_, ?_, ?_, ?_, ?_, ?_, ?_, ?_, ?_, ?_, ?_, ?_, ?_, ?_, ?_⟩ <;> rfl
def kg_cd60 : kg_Cd := [(0, (1, 2, 1, 0, 0, [])), (1, (4, 40, 61, 1, 55, [])), (4, (7, 16, 1, 9, 0, [])), (7, (8, 1, 1, 0, 0, [])), (8, (9, 48, 0, 0, 0, [])), (9, (10, 3, 0, 0, 0, [])), (10, (13, 22, 5, 0, 12, [])), (13, (16, 22, 4, 3, 58, [])), (16, (17, 2, 1, 0, 0, [])), (17, (18, 28, 0, 0, 0, [])), (18, (19, 2, 2, 0, 0, [])), (19, (22, 17, 1, 25, 0, [])), (22, (24, 1, 5, 0, 0, [])), (24, (25, 48, 0, 0, 0, [])), (25, (26, 3, 0, 0, 0, [])), (26, (29, 39, 59, 1, 52, [])), (29, (30, 3, 0, 0, 0, [])), (30, (33, 22, 5, 0, 12, [])), (33, (36, 22, 4, 3, 58, [])), (36, (37, 2, 1, 0, 0, [])), (37, (38, 2, 2, 0, 0, [])), (38, (39, 32, 0, 0, 0, [])), (39, (40, 3, 0, 0, 0, [])), (40, (43, 22, 5, 0, 12, [])), (43, (46, 39, 23, 1, 62, [])), (46, (47, 48, 0, 0, 0, []))]
set_option maxRecDepth 100000 in
theorem kg_ok60 : kg_okc 5 false 3 cX5_setUp kg_cd60 = true := by decide +kernel
set_option maxRecDepth 100000 in
theorem kg_lk60 : kg_lk kg_cd60 0 = some (1, 2, 1, 0, 0, []) ∧ kg_lk kg_cd60 1 = some (4, 40, 61, 1, 55, []) ∧ kg_lk kg_cd60 4 = some (7, 16, 1, 9, 0, []) ∧ kg_lk kg_cd60 7 = some (8, 1, 1, 0, 0, []) ∧ kg_lk kg_cd60 8 = some (9, 48, 0, 0, 0, []) ∧ kg_lk kg_cd60 9 = some (10, 3, 0, 0, 0, []) ∧ kg_lk kg_cd60 10 = some (13, 22, 5, 0, 12, []) ∧ kg_lk kg_cd60 13 = some (16, 22, 4, 3, 58, []) ∧ kg_lk kg_cd60 16 = some (17, 2, 1, 0, 0, []) ∧ kg_lk kg_cd60 17 = some (18, 28, 0, 0, 0, []) ∧ kg_lk kg_cd60 18 = some (19, 2, 2, 0, 0, []) ∧ kg_lk kg_cd60 19 = some (22, 17, 1, 25, 0, []) ∧ kg_lk kg_cd60 22 = some (24, 1, 5, 0, 0, []) ∧ kg_lk kg_cd60 24 = some (25, 48, 0, 0, 0, []) ∧ kg_lk kg_cd60 25 = some (26, 3, 0, 0, 0, []) ∧ kg_lk kg_cd60 26 = some (29, 39, 59, 1, 52, []) ∧ kg_lk kg_cd60 29 = some (30, 3, 0, 0, 0, []) ∧ kg_lk kg_cd60 30 = some (33, 22, 5, 0, 12, []) ∧ kg_lk kg_cd60 33 = some (36, 22, 4, 3, 58, []) ∧ kg_lk kg_cd60 36 = some (37, 2, 1, 0, 0, []) ∧ kg_lk kg_cd60 37 = some (38, 2, 2, 0, 0, []) ∧ kg_lk kg_cd60 38 = some (39, 32, 0, 0, 0, []) ∧ kg_lk kg_cd60 39 = some (40, 3, 0, 0, 0, []) ∧ kg_lk kg_cd60 40 = some (43, 22, 5, 0, 12, []) ∧ kg_lk kg_cd60 43 = some (46, 39, 23, 1, 62, []) ∧ kg_lk kg_cd60 46 = some (47, 48, 0, 0, 0, []) := by refine ⟨?_, ?_, ?_, ?_, ?_, ?_, ?_, ?_, ?_, ?_, ?_, ?_, ?_, ?_, ?_, ?_, ?_, ?_, ?_, ?_, ?_, ?_, ?_, ?_, ?_, ?_⟩ <;> rfl
def kg_cd61 : kg_Cd := [(0, (1, 2, 0, 0, 0, [])), (1, (4, 16, 2, 13, 0, [])), (4, (5, 2, 0, 0, 0, [])), (5, (6, 0, 4, 0, 0, [])), (6, (9, 17, 3, 13, 0, [])), (9, (10, 0, 1, 0, 0, [])), (10, (13, 18, 0, 14, 0, [])), (13, (14, 0, 0, 0, 0, [])), (14, (15, 48, 0, 0, 0, []))]
set_option maxRecDepth 100000 in
theorem kg_ok61 : kg_okc 5 false 1 cX5_isNode kg_cd61 = true := by decide +kernel
set_option maxRecDepth 100000 in
theorem kg_lk61 : kg_lk kg_cd61 0 = some (1, 2, 0, 0, 0, []) ∧ kg_lk kg_cd61 1 = some (4, 16, 2, 13, 0, []) ∧ kg_lk kg_cd61 4 = some (5, 2, 0, 0, 0, []) ∧ kg_lk kg_cd61 5 = some (6, 0, 4, 0, 0, []) ∧ kg_lk kg_cd61 6 = some (9, 17, 3, 13, 0, []) ∧ kg_lk kg_cd61 9 = some (10, 0, 1, 0, 0, []) ∧ kg_lk kg_cd61 10 = some (13, 18, 0, 14, 0, []) ∧ kg_lk kg_cd61 13 = some (14, 0, 0, 0, 0, []) ∧ kg_lk kg_cd61 14 = some (15, 48, 0, 0, 0, []) := by refine ⟨?_, ?_, ?_, ?_, ?_, ?_, ?_, ?_, ?_⟩ <;> rfl
def kg_cd62 : kg_Cd := [(0, (1, 2, 1, 0, 0, [])), (1, (4, 40, 61, 1, 55, [])), (4, (7, 16, 0, 14, 0, [])), (7, (8, 2, 2, 0, 0, [])), (8, (11, 40, 63, 1, 66, [])), (11, (14, 16, 1, 16, 0, [])), (14, (15, 1, 1, 0, 0, [])), (15, (16, 48, 0, 0, 0, [])), (16, (17, 2, 3, 0, 0, [])), (17, (20, 16, 2, 26, 0, [])), (20, (21, 2, 3, 0, 0, [])), (21, (23, 0, 99, 0, 0, [])), (23, (26, 17, 5, 29, 0, [])), (26, (28, 1, 2, 0, 0, [])), (28, (29, 48, 0, 0, 0, [])), (29, (30, 3, 0, 0, 0, [])), (30, (33, 22, 5, 0, 12, [])), (33, (36, 22, 4, 3, 58, [])), (36, (37, 2, 1, 0, 0, [])), (37, (38, 28, 0, 0, 0, [])), (38, (41, 16, 1, 44, 0, [])), (41, (43, 1, 4, 0, 0, [])), (43, (44, 48, 0, 0, 0, [])), (44, (45, 3, 0, 0, 0, [])), (45, (48, 39, 59, 1, 52, [])), (48, (49, 3, 0, 0, 0, [])), (49, (52, 22, 5, 0, 12, [])), (52, (53, 2, 1, 0, 0, [])), (53, (54, 2, 2, 0, 0, [])), (54, (55, 2, 3, 0, 0, [])), (55, (58, 39, 24, 4, 69, [])), (58, (59, 48, 0, 0, 0, []))]
set_option maxRecDepth 100000 in
theorem kg_ok62 : kg_okc 5 false 4 cX5_write kg_cd62 = true := by decide +kernel
set_option maxRecDepth 100000 in
theorem kg_lk62 : kg_lk kg_cd62 0 = some (1, 2, 1, 0, 0, []) ∧ kg_lk kg_cd62 1 = some (4, 40, 61, 1, 55, []) ∧ kg_lk kg_cd62 4 = some (7, 16, 0, 14, 0, []) ∧ kg_lk kg_cd62 7 = some (8, 2, 2, 0, 0, []) ∧ kg_lk kg_cd62 8 = some (11, 40, 63, 1, 66, []) ∧ kg_lk kg_cd62 11 = some (14, 16, 1, 16, 0, []) ∧ kg_lk kg_cd62 14 = some (15, 1, 1, 0, 0, []) ∧ kg_lk kg_cd62 15 = some (16, 48, 0, 0, 0, []) ∧ kg_lk kg_cd62 16 = some (17, 2, 3, 0, 0, []) ∧ kg_lk kg_cd62 17 = some (20, 16, 2, 26, 0, []) ∧ kg_lk kg_cd62 20 = some (21, 2, 3, 0, 0, []) ∧ kg_lk kg_cd62 21 = some (23, 0, 99, 0, 0, []) ∧ kg_lk kg_cd62 23 = some (26, 17, 5, 29, 0, []) ∧ kg_lk kg_cd62 26 = some (28, 1, 2, 0, 0, []) ∧ kg_lk kg_cd62 28 = some (29, 48, 0, 0, 0, []) ∧ kg_lk kg_cd62 29 = some (30, 3, 0, 0, 0, []) ∧ kg_lk kg_cd62 30 = some (33, 22, 5, 0, 12, []) ∧ kg_lk kg_cd62 33 = some (36, 22, 4, 3, 58, []) ∧ kg_lk kg_cd62 36 = some (37, 2, 1, 0, 0, []) ∧ kg_lk kg_cd62 37 = some (38, 28, 0, 0, 0, []) ∧ kg_lk kg_cd62 38 = some (41, 16, 1, 44, 0, []) ∧ kg_lk kg_cd62 41 = some (43, 1, 4, 0, 0, []) ∧ kg_lk kg_cd62 43 = some (44, 48, 0, 0, 0, []) ∧ kg_lk kg_cd62 44 = some (45, 3, 0, 0, 0, []) ∧ kg_lk kg_cd62 45 = some (48, 39, 59, 1, 52, []) ∧ kg_lk kg_cd62 48 = some (49, 3, 0, 0, 0, []) ∧ kg_lk kg_cd62 49 = some (52, 22, 5, 0, 12, []) ∧ kg_lk kg_cd62 52 = some (53, 2, 1, 0, 0, []) ∧ kg_lk kg_cd62 53 = some (54, 2, 2, 0, 0, []) ∧ kg_lk kg_cd62 54 = some (55, 2, 3, 0, 0, []) ∧ kg_lk kg_cd62 55 = some (58, 39, 24, 4, 69, []) ∧ kg_lk kg_cd62 58 = some (59, 48, 0, 0, 0, []) := by refine ⟨?_, ?_, ?_, ?_, ?_, ?_, ?_, ?_, ?_, ?_, ?_, ?_, ?_, ?_, ?_, ?_, ?_, ?_, ?_, ?_, ?_, ?_, ?_, ?_, ?_, ?_, ?_, ?_, ?_, ?_, ?_, ?_⟩ <;> rfl
def kg_cd63 : kg_Cd := [(0, (1, 2, 0, 0, 0, [])), (1, (4, 16, 2, 14, 0, [])), (4, (5, 2, 0, 0, 0, [])), (5, (7, 0, 8, 0, 0, [])), (7, (10, 17, 3, 14, 0, [])), (10, (11, 0, 1, 0, 0, [])), (11, (14, 18, 0, 15, 0, [])), (14, (15, 0, 0, 0, 0, [])), (15, (16, 48, 0, 0, 0, []))]
set_option maxRecDepth 100000 in
theorem kg_ok63 : kg_okc 5 false 1 cX5_isKey kg_cd63 = true := by decide +kernel
set_option maxRecDepth 100000 in
theorem kg_lk63 : kg_lk kg_cd63 0 = some (1, 2, 0, 0, 0, []) ∧ kg_lk kg_cd63 1 = some (4, 16, 2, 14, 0, []) ∧ kg_lk kg_cd63 4 = some (5, 2, 0, 0, 0, []) ∧ kg_lk kg_cd63 5 = some (7, 0, 8, 0, 0, []) ∧ kg_lk kg_cd63 7 = some (10, 17, 3, 14, 0, []) ∧ kg_lk kg_cd63 10 = some (11, 0, 1, 0, 0, []) ∧ kg_lk kg_cd63 11 = some (14, 18, 0, 15, 0, []) ∧ kg_lk kg_cd63 14 = some (15, 0, 0, 0, 0, []) ∧ kg_lk kg_cd63 15 = some (16, 48, 0, 0, 0, []) := by refine ⟨?_, ?_, ?_, ?_, ?_, ?_, ?_, ?_, ?_⟩ <;> rfl
def kg_cd64 : kg_Cd := [(0, (1, 2, 0, 0, 0, [])), (1, (3, 0, 8, 0, 0, [])), (3, (4, 9, 0, 0, 0, [])), (4, (5, 2, 1, 0, 0, [])), (5, (6, 7, 0, 0, 0, [])), (6, (7, 48, 0, 0, 0, []))]
set_option maxRecDepth 100000 in
theorem kg_ok64 : kg_okc 5 false 2 cX5_place kg_cd64 = true := by decide +kernel
set_option maxRecDepth 100000 in
theorem kg_lk64 : kg_lk kg_cd64 0 = some (1, 2, 0, 0, 0, []) ∧ kg_lk kg_cd64 1 = some (3, 0, 8, 0, 0, []) ∧ kg_lk kg_cd64 3 = some (4, 9, 0, 0, 0, []) ∧ kg_lk kg_cd64 4 = some (5, 2, 1, 0, 0, []) ∧ kg_lk kg_cd64 5 = some (6, 7, 0, 0, 0, []) ∧ kg_lk kg_cd64 6 = some (7, 48, 0, 0, 0, []) := by refine ⟨?_, ?_, ?_, ?_, ?_, ?_⟩ <;> rfl
def kg_cd65 : kg_Cd := [(0, (1, 2, 1, 0, 0, [])), (1, (4, 40, 61, 1, 55, [])), (4, (7, 16, 0, 14, 0, [])), (7, (8, 2, 2, 0, 0, [])), (8, (11, 40, 63, 1, 66, [])), (11, (14, 16, 1, 16, 0, [])), (14, (15, 1, 1, 0, 0, [])), (15, (16, 48, 0, 0, 0, [])), (16, (17, 3, 0, 0, 0, [])), (17, (20, 22, 5, 0, 12, [])), (20, (23, 22, 4, 3, 58, [])), (23, (24, 2, 1, 0, 0, [])), (24, (25, 28, 0, 0, 0, [])), (25, (28, 16, 1, 31, 0, [])), (28, (30, 1, 4, 0, 0, [])), (30, (31, 48, 0, 0, 0, [])), (31, (32, 3, 0, 0, 0, [])), (32, (35, 39, 59, 1, 52, [])), (35, (36, 3, 0, 0, 0, [])), (36, (39, 22, 5, 0, 12, [])), (39, (40, 2, 1, 0, 0, [])), (40, (41, 2, 2, 0, 0, [])), (41, (42, 1, 1, 0, 0, [])), (42, (45, 39, 24, 4, 69, [])), (45, (46, 48, 0, 0, 0, []))]
set_option maxRecDepth 100000 in
theorem kg_ok65 : kg_okc 5 false 3 cX5_delete kg_cd65 = true := by decide +kernel
set_option maxRecDepth 100000 in
theorem kg_lk65 : kg_lk kg_cd65 0 = some (1, 2, 1, 0, 0, []) ∧ kg_lk kg_cd65 1 = some (4, 40, 61, 1, 55, []) ∧ kg_lk kg_cd65 4 = some (7, 16, 0, 14, 0, []) ∧ kg_lk kg_cd65 7 = some (8, 2, 2, 0, 0, []) ∧ kg_lk kg_cd65 8 = some (11, 40, 63, 1, 66, []) ∧ kg_lk kg_cd65 11 = some (14, 16, 1, 16, 0, []) ∧ kg_lk kg_cd65 14 = some (15, 1, 1, 0, 0, []) ∧ kg_lk kg_cd65 15 = some (16, 48, 0, 0, 0, []) ∧ kg_lk kg_cd65 16 = some (17, 3, 0, 0, 0, []) ∧ kg_lk kg_cd65 17 = some (20, 22, 5, 0, 12, []) ∧ kg_lk kg_cd65 20 = some (23, 22, 4, 3, 58, []) ∧ kg_lk kg_cd65 23 = some (24, 2, 1, 0, 0, []) ∧ kg_lk kg_cd65 24 = some (25, 28, 0, 0, 0, []) ∧ kg_lk kg_cd65 25 = some (28, 16, 1, 31, 0, []) ∧ kg_lk kg_cd65 28 = some (30, 1, 4, 0, 0, []) ∧ kg_lk kg_cd65 30 = some (31, 48, 0, 0, 0, []) ∧ kg_lk kg_cd65 31 = some (32, 3, 0, 0, 0, []) ∧ kg_lk kg_cd65 32 = some (35, 39, 59, 1, 52, []) ∧ kg_lk kg_cd65 35 = some (36, 3, 0, 0, 0, []) ∧ kg_lk kg_cd65 36 = some (39, 22, 5, 0, 12, []) ∧ kg_lk kg_cd65 39 = some (40, 2, 1, 0, 0, []) ∧ kg_lk kg_cd65 40 = some (41, 2, 2, 0, 0, []) ∧ kg_lk kg_cd65 41 = some (42, 1, 1, 0, 0, []) ∧ kg_lk kg_cd65 42 = some (45, 39, 24, 4, 69, []) ∧ kg_lk kg_cd65 45 = some (46, 48, 0, 0, 0, []) := by refine ⟨?_, ?_, ?_, ?_, ?_, ?_, ?_, ?_, ?_, ?_, ?_, ?_, ?_, ?_, ?_, ?_, ?_, ?_, ?_, ?_, ?_, ?_, ?_, ?_, ?_⟩ <;> rfl
def kg_cd66 : kg_Cd := [(0, (1, 2, 1, 0, 0, [])), (1, (4, 40, 61, 1, 55, [])), (4, (7, 16, 0, 14, 0, [])), (7, (8, 2, 2, 0, 0, [])), (8, (11, 40, 63, 1, 66, [])), (11, (14, 16, 1, 16, 0, [])), (14, (15, 1, 1, 0, 0, [])), (15, (16, 48, 0, 0, 0, [])), (16, (17, 3, 0, 0, 0, [])), (17, (20, 22, 5, 0, 12, [])), (20, (23, 22, 4, 3, 58, [])), (23, (24, 2, 1, 0, 0, [])), (24, (25, 28, 0, 0, 0, [])), (25, (28, 16, 1, 31, 0, [])), (28, (30, 1, 4, 0, 0, [])), (30, (31, 48, 0, 0, 0, [])), (31, (32, 3, 0, 0, 0, [])), (32, (35, 22, 5, 0, 12, [])), (35, (36, 2, 1, 0, 0, [])), (36, (37, 2, 2, 0, 0, [])), (37, (40, 39, 26, 3, 73, [])), (40, (41, 4, 3, 0, 0, [])), (41, (42, 3, 0, 0, 0, [])), (42, (45, 22, 5, 0, 12, [])), (45, (48, 22, 4, 2, 49, [])), (48, (49, 0, 4, 0, 0, [])), (49, (50, 27, 0, 0, 0, [])), (50, (51, 0, 1, 0, 0, [])), (51, (54, 17, 1, 79, 0, [])), (54, (55, 3, 0, 0, 0, [])), (55, (58, 22, 5, 0, 12, [])), (58, (59, 2, 3, 0, 0, [])), (59, (60, 2, 2, 0, 0, [])), (60, (63, 39, 28, 3, 77, [])), (63, (66, 16, 0, 79, 0, [])), (66, (67, 3, 0, 0, 0, [])), (67, (70, 39, 59, 1, 52, [])), (70, (71, 3, 0, 0, 0, [])), (71, (74, 22, 5, 0, 12, [])), (74, (75, 2, 3, 0, 0, [])), (75, (76, 2, 2, 0, 0, [])), (76, (79, 39, 29, 3, 81, [])), (79, (80, 3, 0, 0, 0, [])), (80, (83, 22, 5, 0, 12, [])), (83, (86, 22, 4, 4, 85, [])), (86, (87, 2, 3, 0, 0, [])), (87, (88, 2, 2, 0, 0, [])), (88, (91, 40, 64, 2, 89, [])), (91, (94, 39, 9, 2, 92, [])), (94, (95, 48, 0, 0, 0, []))]
set_option maxRecDepth 100000 in
theorem kg_ok66 : kg_okc 5 false 4 cX5_read kg_cd66 = true := by decide +kernel
set_option maxRecDepth 100000 in
theorem kg_lk66 : kg_lk kg_cd66 0 = some (1, 2, 1, 0, 0, []) ∧ kg_lk kg_cd66 1 = some (4, 40, 61, 1, 55, []) ∧ kg_lk kg_cd66 4 = some (7, 16, 0, 14, 0, []) ∧ kg_lk kg_cd66 7 = some (8, 2, 2, 0, 0, []) ∧ kg_lk kg_cd66 8 = some (11, 40, 63, 1, 66, []) ∧ kg_lk kg_cd66 11 = some (14, 16, 1, 16, 0, []) ∧ kg_lk kg_cd66 14 = some (15, 1, 1, 0, 0, []) ∧ kg_lk kg_cd66 15 = some (16, 48, 0, 0, 0, []) ∧ kg_lk kg_cd66 16 = some (17, 3, 0, 0, 0, []) ∧ kg_lk kg_cd66 17 = some (20, 22, 5, 0, 12, []) ∧ kg_lk kg_cd66 20 = some (23, 22, 4, 3, 58, []) ∧ kg_lk kg_cd66 23 = some (24, 2, 1, 0, 0, []) ∧ kg_lk kg_cd66 24 = some (25, 28, 0, 0, 0, []) ∧ kg_lk kg_cd66 25 = some (28, 16, 1, 31, 0, []) ∧ kg_lk kg_cd66 28 = some (30, 1, 4, 0, 0, []) ∧ kg_lk kg_cd66 30 = some (31, 48, 0, 0, 0, []) ∧ kg_lk kg_cd66 31 = some (32, 3, 0, 0, 0, []) ∧ kg_lk kg_cd66 32 = some (35, 22, 5, 0, 12, []) ∧ kg_lk kg_cd66 35 = some (36, 2, 1, 0, 0, []) ∧ kg_lk kg_cd66 36 = some (37, 2, 2, 0, 0, []) ∧ kg_lk kg_cd66 37 = some (40, 39, 26, 3, 73, []) ∧ kg_lk kg_cd66 40 = some (41, 4, 3, 0, 0, []) ∧ kg_lk kg_cd66 41 = some (42, 3, 0, 0, 0, []) ∧ kg_lk kg_cd66 42 = some (45, 22, 5, 0, 12, []) ∧ kg_lk kg_cd66 45 = some (48, 22, 4, 2, 49, []) ∧ kg_lk kg_cd66 48 = some (49, 0, 4, 0, 0, []) ∧ kg_lk kg_cd66 49 = some (50, 27, 0, 0, 0, []) ∧ kg_lk kg_cd66 50 = some (51, 0, 1, 0, 0, []) ∧ kg_lk kg_cd66 51 = some (54, 17, 1, 79, 0, []) ∧ kg_lk kg_cd66 54 = some (55, 3, 0, 0, 0, []) ∧ kg_lk kg_cd66 55 = some (58, 22, 5, 0, 12, []) ∧ kg_lk kg_cd66 58 = some (59, 2, 3, 0, 0, []) ∧ kg_lk kg_cd66 59 = some (60, 2, 2, 0, 0, []) ∧ kg_lk kg_cd66 60 = some (63, 39, 28, 3, 77, []) ∧ kg_lk kg_cd66 63 = some (66, 16, 0, 79, 0, []) ∧ kg_lk kg_cd66 66 = some (67, 3, 0, 0, 0, []) ∧ kg_lk kg_cd66 67 = some (70, 39, 59, 1, 52, []) ∧ kg_lk kg_cd66 70 = some (71, 3, 0, 0, 0, []) ∧ kg_lk kg_cd66 71 = some (74, 22, 5, 0, 12, []) ∧ kg_lk kg_cd66 74 = some (75, 2, 3, 0, 0, []) ∧ kg_lk kg_cd66 75 = some (76, 2, 2, 0, 0, []) ∧ kg_lk kg_cd66 76 = some (79, 39, 29, 3, 81, []) ∧ kg_lk kg_cd66 79 = some (80, 3, 0, 0, 0, []) ∧ kg_lk kg_cd66 80 = some (83, 22, 5, 0, 12, []) ∧ kg_lk kg_cd66 83 = some (86, 22, 4, 4, 85, []) ∧ kg_lk kg_cd66 86 = some (87, 2, 3, 0, 0, []) ∧ kg_lk kg_cd66 87 = some (88, 2, 2, 0, 0, []) ∧ kg_lk kg_cd66 88 = some (91, 40, 64, 2, 89, []) ∧ kg_lk kg_cd66 91 = some (94, 39, 9, 2, 92, []) ∧ kg_lk kg_cd66 94 = some (95, 48, 0, 0, 0, []) := by refine ⟨?_, ?_, ?_, ?_, ?_, ?_, ?_, ?_, ?_, ?_, ?_, ?_, ?_, ?_, ?_, ?_, ?_, ?_, ?_, ?_, ?_, ?_, ?_, ?_, ?_, ?_, ?_, ?_, ?_, ?_, ?_, ?_, ?_, ?_, ?_, ?_, ?_, ?_, ?_, ?_, ?_, ?_, ?_, ?_, ?_, ?_, ?_, ?_, ?_, ?_⟩ <;> rfl
def kg_cd67 : kg_Cd := [(0, (1, 2, 1, 0, 0, [])), (1, (4, 40, 61, 1, 55, [])), (4, (7, 16, 0, 14, 0, [])), (7, (8, 2, 2, 0, 0, [])), (8, (11, 40, 61, 1, 55, [])), (11, (14, 16, 1, 16, 0, [])), (14, (15, 1, 1, 0, 0, [])), (15, (16, 48, 0, 0, 0, [])), (16, (17, 2, 1, 0, 0, [])), (17, (18, 2, 2, 0, 0, [])), (18, (21, 17, 1, 24, 0, [])), (21, (23, 1, 2, 0, 0, [])), (23, (24, 48, 0, 0, 0, [])), (24, (25, 3, 0, 0, 0, [])), (25, (28, 22, 5, 0, 12, [])), (28, (31, 22, 4, 3, 58, [])), (31, (32, 2, 1, 0, 0, [])), (32, (33, 28, 0, 0, 0, [])), (33, (36, 16, 0, 48, 0, [])), (36, (37, 3, 0, 0, 0, [])), (37, (40, 22, 5, 0, 12, [])), (40, (43, 22, 4, 3, 58, [])), (43, (44, 2, 2, 0, 0, [])), (44, (45, 28, 0, 0, 0, [])), (45, (48, 16, 1, 51, 0, [])), (48, (50, 1, 4, 0, 0, [])), (50, (51, 48, 0, 0, 0, [])), (51, (52, 3, 0, 0, 0, [])), (52, (55, 39, 59, 1, 52, [])), (55, (56, 3, 0, 0, 0, [])), (56, (59, 22, 5, 0, 12, [])), (59, (60, 2, 1, 0, 0, [])), (60, (61, 2, 2, 0, 0, [])), (61, (64, 39, 33, 3, 98, [])), (64, (65, 48, 0, 0, 0, []))]
set_option maxRecDepth 100000 in
theorem kg_ok67 : kg_okc 5 false 3 cX5_repair kg_cd67 = true := by decide +kernel
set_option maxRecDepth 100000 in
theorem kg_lk67 : kg_lk kg_cd67 0 = some (1, 2, 1, 0, 0, []) ∧ kg_lk kg_cd67 1 = some (4, 40, 61, 1, 55, []) ∧ kg_lk kg_cd67 4 = some (7, 16, 0, 14, 0, []) ∧ kg_lk kg_cd67 7 = some (8, 2, 2, 0, 0, []) ∧ kg_lk kg_cd67 8 = some (11, 40, 61, 1, 55, []) ∧ kg_lk kg_cd67 11 = some (14, 16, 1, 16, 0, []) ∧ kg_lk kg_cd67 14 = some (15, 1, 1, 0, 0, []) ∧ kg_lk kg_cd67 15 = some (16, 48, 0, 0, 0, []) ∧ kg_lk kg_cd67 16 = some (17, 2, 1, 0, 0, []) ∧ kg_lk kg_cd67 17 = some (18, 2, 2, 0, 0, []) ∧ kg_lk kg_cd67 18 = some (21, 17, 1, 24, 0, []) ∧ kg_lk kg_cd67 21 = some (23, 1, 2, 0, 0, []) ∧ kg_lk kg_cd67 23 = some (24, 48, 0, 0, 0, []) ∧ kg_lk kg_cd67 24 = some (25, 3, 0, 0, 0, []) ∧ kg_lk kg_cd67 25 = some (28, 22, 5, 0, 12, []) ∧ kg_lk kg_cd67 28 = some (31, 22, 4, 3, 58, []) ∧ kg_lk kg_cd67 31 = some (32, 2, 1, 0, 0, []) ∧ kg_lk kg_cd67 32 = some (33, 28, 0, 0, 0, []) ∧ kg_lk kg_cd67 33 = some (36, 16, 0, 48, 0, []) ∧ kg_lk kg_cd67 36 = some (37, 3, 0, 0, 0, []) ∧ kg_lk kg_cd67 37 = some (40, 22, 5, 0, 12, []) ∧ kg_lk kg_cd67 40 = some (43, 22, 4, 3, 58, []) ∧ kg_lk kg_cd67 43 = some (44, 2, 2, 0, 0, []) ∧ kg_lk kg_cd67 44 = some (45, 28, 0, 0, 0, []) ∧ kg_lk kg_cd67 45 = some (48, 16, 1, 51, 0, []) ∧ kg_lk kg_cd67 48 = some (50, 1, 4, 0, 0, []) ∧ kg_lk kg_cd67 50 = some (51, 48, 0, 0, 0, []) ∧ kg_lk kg_cd67 51 = some (52, 3, 0, 0, 0, []) ∧ kg_lk kg_cd67 52 = some (55, 39, 59, 1, 52, []) ∧ kg_lk kg_cd67 55 = some (56, 3, 0, 0, 0, []) ∧ kg_lk kg_cd67 56 = some (59, 22, 5, 0, 12, []) ∧ kg_lk kg_cd67 59 = some (60, 2, 1, 0, 0, []) ∧ kg_lk kg_cd67 60 = some (61, 2, 2, 0, 0, []) ∧ kg_lk kg_cd67 61 = some (64, 39, 33, 3, 98, []) ∧ kg_lk kg_cd67 64 = some (65, 48, 0, 0, 0, []) := by refine ⟨?_, ?_, ?_, ?_, ?_, ?_, ?_, ?_, ?_, ?_, ?_, ?_, ?_, ?_, ?_, ?_, ?_, ?_, ?_, ?_, ?_, ?_, ?_, ?_, ?_, ?_, ?_, ?_, ?_, ?_, ?_, ?_, ?_, ?_, ?_⟩ <;> rfl
def kg_cd68 : kg_Cd := [(0, (1, 2, 0, 0, 0, [])), (1, (2, 2, 1, 0, 0, [])), (2, (5, 45, 0, 0, 241, [])), (5, (6, 0, 4, 0, 0, [])), (6, (7, 9, 0, 0, 0, [])), (7, (8, 2, 0, 0, 0, [])), (8, (9, 2, 1, 0, 0, [])), (9, (12, 46, 0, 0, 246, [])), (12, (13, 7, 0, 0, 0, [])), (13, (14, 48, 0, 0, 0, []))]
set_option maxRecDepth 100000 in
theorem kg_ok68 : kg_okc 5 false 2 cX5_pairPlace kg_cd68 = true := by decide +kernel
set_option maxRecDepth 100000 in
theorem kg_lk68 : kg_lk kg_cd68 0 = some (1, 2, 0, 0, 0, []) ∧ kg_lk kg_cd68 1 = some (2, 2, 1, 0, 0, []) ∧ kg_lk kg_cd68 2 = some (5, 45, 0, 0, 241, []) ∧ kg_lk kg_cd68 5 = some (6, 0, 4, 0, 0, []) ∧ kg_lk kg_cd68 6 = some (7, 9, 0, 0, 0, []) ∧ kg_lk kg_cd68 7 = some (8, 2, 0, 0, 0, []) ∧ kg_lk kg_cd68 8 = some (9, 2, 1, 0, 0, []) ∧ kg_lk kg_cd68 9 = some (12, 46, 0, 0, 246, []) ∧ kg_lk kg_cd68 12 = some (13, 7, 0, 0, 0, []) ∧ kg_lk kg_cd68 13 = some (14, 48, 0, 0, 0, []) := by refine ⟨?_, ?_, ?_, ?_, ?_, ?_, ?_, ?_, ?_, ?_⟩ <;> rfl
def kg_cd69 : kg_Cd := [(0, (1, 2, 1, 0, 0, [])), (1, (4, 40, 61, 1, 55, [])), (4, (7, 16, 1, 9, 0, [])), (7, (8, 1, 1, 0, 0, [])), (8, (9, 48, 0, 0, 0, [])), (9, (10, 3, 0, 0, 0, [])), (10, (13, 22, 5, 0, 12, [])), (13, (16, 22, 4, 3, 58, [])), (16, (17, 2, 1, 0, 0, [])), (17, (18, 28, 0, 0, 0, [])), (18, (21, 16, 1, 24, 0, [])), (21, (23, 1, 4, 0, 0, [])), (23, (24, 48, 0, 0, 0, [])), (24, (25, 3, 0, 0, 0, [])), (25, (28, 22, 5, 0, 12, [])), (28, (29, 2, 1, 0, 0, [])), (29, (32, 39, 36, 2, 101, [])), (32, (35, 16, 1, 38, 0, [])), (35, (37, 1, 5, 0, 0, [])), (37, (38, 48, 0, 0, 0, [])), (38, (39, 3, 0, 0, 0, [])), (39, (42, 39, 59, 1, 52, [])), (42, (43, 3, 0, 0, 0, [])), (43, (46, 22, 5, 0, 12, [])), (46, (47, 2, 1, 0, 0, [])), (47, (50, 39, 41, 2, 104, [])), (50, (51, 48, 0, 0, 0, []))]
set_option maxRecDepth 100000 in
theorem kg_ok69 : kg_okc 5 false 2 cX5_clear kg_cd69 = true := by decide +kernel
set_option maxRecDepth 100000 in
theorem kg_lk69 : kg_lk kg_cd69 0 = some (1, 2, 1, 0, 0, []) ∧ kg_lk kg_cd69 1 = some (4, 40, 61, 1, 55, []) ∧ kg_lk kg_cd69 4 = some (7, 16, 1, 9, 0, []) ∧ kg_lk kg_cd69 7 = some (8, 1, 1, 0, 0, []) ∧ kg_lk kg_cd69 8 = some (9, 48, 0, 0, 0, []) ∧ kg_lk kg_cd69 9 = some (10, 3, 0, 0, 0, []) ∧ kg_lk kg_cd69 10 = some (13, 22, 5, 0, 12, []) ∧ kg_lk kg_cd69 13 = some (16, 22, 4, 3, 58, []) ∧ kg_lk kg_cd69 16 = some (17, 2, 1, 0, 0, []) ∧ kg_lk kg_cd69 17 = some (18, 28, 0, 0, 0, []) ∧ kg_lk kg_cd69 18 = some (21, 16, 1, 24, 0, []) ∧ kg_lk kg_cd69 21 = some (23, 1, 4, 0, 0, []) ∧ kg_lk kg_cd69 23 = some (24, 48, 0, 0, 0, []) ∧ kg_lk kg_cd69 24 = some (25, 3, 0, 0, 0, []) ∧ kg_lk kg_cd69 25 = some (28, 22, 5, 0, 12, []) ∧ kg_lk kg_cd69 28 = some (29, 2, 1, 0, 0, []) ∧ kg_lk kg_cd69 29 = some (32, 39, 36, 2, 101, []) ∧ kg_lk kg_cd69 32 = some (35, 16, 1, 38, 0, []) ∧ kg_lk kg_cd69 35 = some (37, 1, 5, 0, 0, []) ∧ kg_lk kg_cd69 37 = some (38, 48, 0, 0, 0, []) ∧ kg_lk kg_cd69 38 = some (39, 3, 0, 0, 0, []) ∧ kg_lk kg_cd69 39 = some (42, 39, 59, 1, 52, []) ∧ kg_lk kg_cd69 42 = some (43, 3, 0, 0, 0, []) ∧ kg_lk kg_cd69 43 = some (46, 22, 5, 0, 12, []) ∧ kg_lk kg_cd69 46 = some (47, 2, 1, 0, 0, []) ∧ kg_lk kg_cd69 47 = some (50, 39, 41, 2, 104, []) ∧ kg_lk kg_cd69 50 = some (51, 48, 0, 0, 0, []) := by refine ⟨?_, ?_, ?_, ?_, ?_, ?_, ?_, ?_, ?_, ?_, ?_, ?_, ?_, ?_, ?_, ?_, ?_, ?_, ?_, ?_, ?_, ?_, ?_, ?_, ?_, ?_, ?_⟩ <;> rfl
def kg_cd70 : kg_Cd := [(0, (1, 2, 1, 0, 0, [])), (1, (4, 40, 61, 1, 55, [])), (4, (7, 16, 0, 14, 0, [])), (7, (8, 2, 2, 0, 0, [])), (8, (11, 40, 61, 1, 55, [])), (11, (14, 16, 1, 16, 0, [])), (14, (15, 1, 1, 0, 0, [])), (15, (16, 48, 0, 0, 0, [])), (16, (17, 2, 3, 0, 0, [])), (17, (20, 16, 2, 32, 0, [])), (20, (21, 2, 3, 0, 0, [])), (21, (24, 0, 9999, 0, 0, [])), (24, (27, 17, 4, 32, 0, [])), (27, (28, 2, 1, 0, 0, [])), (28, (29, 2, 2, 0, 0, [])), (29, (32, 17, 1, 35, 0, [])), (32, (34, 1, 2, 0, 0, [])), (34, (35, 48, 0, 0, 0, [])), (35, (36, 3, 0, 0, 0, [])), (36, (39, 22, 5, 0, 12, [])), (39, (42, 22, 4, 6, 107, [])), (42, (45, 21, 2, 0, 111, [])), (45, (47, 0, 10, 0, 0, [])), (47, (50, 17, 2, 53, 0, [])), (50, (52, 1, 3, 0, 0, [])), (52, (53, 48, 0, 0, 0, [])), (53, (54, 3, 0, 0, 0, [])), (54, (57, 39, 59, 1, 52, [])), (57, (58, 3, 0, 0, 0, [])), (58, (61, 22, 5, 0, 12, [])), (61, (64, 22, 4, 6, 107, [])), (64, (65, 2, 1, 0, 0, [])), (65, (66, 2, 2, 0, 0, [])), (66, (67, 2, 3, 0, 0, [])), (67, (70, 39, 13, 4, 116, [])), (70, (71, 3, 0, 0, 0, [])), (71, (74, 22, 5, 0, 12, [])), (74, (77, 22, 4, 6, 107, [])), (77, (80, 21, 2, 0, 111, [])), (80, (81, 48, 0, 0, 0, []))]
set_option maxRecDepth 100000 in
theorem kg_ok70 : kg_okc 5 false 4 cX5_plan kg_cd70 = true := by decide +kernel
set_option maxRecDepth 100000 in
theorem kg_lk70 : kg_lk kg_cd70 0 = some (1, 2, 1, 0, 0, []) ∧ kg_lk kg_cd70 1 = some (4, 40, 61, 1, 55, []) ∧ kg_lk kg_cd70 4 = some (7, 16, 0, 14, 0, []) ∧ kg_lk kg_cd70 7 = some (8, 2, 2, 0, 0, []) ∧ kg_lk kg_cd70 8 = some (11, 40, 61, 1, 55, []) ∧ kg_lk kg_cd70 11 = some (14, 16, 1, 16, 0, []) ∧ kg_lk kg_cd70 14 = some (15, 1, 1, 0, 0, []) ∧ kg_lk kg_cd70 15 = some (16, 48, 0, 0, 0, []) ∧ kg_lk kg_cd70 16 = some (17, 2, 3, 0, 0, []) ∧ kg_lk kg_cd70 17 = some (20, 16, 2, 32, 0, []) ∧ kg_lk kg_cd70 20 = some (21, 2, 3, 0, 0, []) ∧ kg_lk kg_cd70 21 = some (24, 0, 9999, 0, 0, []) ∧ kg_lk kg_cd70 24 = some (27, 17, 4, 32, 0, []) ∧ kg_lk kg_cd70 27 = some (28, 2, 1, 0, 0, []) ∧ kg_lk kg_cd70 28 = some (29, 2, 2, 0, 0, []) ∧ kg_lk kg_cd70 29 = some (32, 17, 1, 35, 0, []) ∧ kg_lk kg_cd70 32 = some (34, 1, 2, 0, 0, []) ∧ kg_lk kg_cd70 34 = some (35, 48, 0, 0, 0, []) ∧ kg_lk kg_cd70 35 = some (36, 3, 0, 0, 0, []) ∧ kg_lk kg_cd70 36 = some (39, 22, 5, 0, 12, []) ∧ kg_lk kg_cd70 39 = some (42, 22, 4, 6, 107, []) ∧ kg_lk kg_cd70 42 = some (45, 21, 2, 0, 111, []) ∧ kg_lk kg_cd70 45 = some (47, 0, 10, 0, 0, []) ∧ kg_lk kg_cd70 47 = some (50, 17, 2, 53, 0, []) ∧ kg_lk kg_cd70 50 = some (52, 1, 3, 0, 0, []) ∧ kg_lk kg_cd70 52 = some (53, 48, 0, 0, 0, []) ∧ kg_lk kg_cd70 53 = some (54, 3, 0, 0, 0, []) ∧ kg_lk kg_cd70 54 = some (57, 39, 59, 1, 52, []) ∧ kg_lk kg_cd70 57 = some (58, 3, 0, 0, 0, []) ∧ kg_lk kg_cd70 58 = some (61, 22, 5, 0, 12, []) ∧ kg_lk kg_cd70 61 = some (64, 22, 4, 6, 107, []) ∧ kg_lk kg_cd70 64 = some (65, 2, 1, 0, 0, []) ∧ kg_lk kg_cd70 65 = some (66, 2, 2, 0, 0, []) ∧ kg_lk kg_cd70 66 = some (67, 2, 3, 0, 0, []) ∧ kg_lk kg_cd70 67 = some (70, 39, 13, 4, 116, []) ∧ kg_lk kg_cd70 70 = some (71, 3, 0, 0, 0, []) ∧ kg_lk kg_cd70 71 = some (74, 22, 5, 0, 12, []) ∧ kg_lk kg_cd70 74 = some (77, 22, 4, 6, 107, []) ∧ kg_lk kg_cd70 77 = some (80, 21, 2, 0, 111, []) ∧ kg_lk kg_cd70 80 = some (81, 48, 0, 0, 0, []) := by refine ⟨?_, ?_, ?_, ?_, ?_, ?_, ?_, ?_, ?_, ?_, ?_, ?_, ?_, ?_, ?_, ?_, ?_, ?_, ?_, ?_, ?_, ?_, ?_, ?_, ?_, ?_, ?_, ?_, ?_, ?_, ?_, ?_, ?_, ?_, ?_, ?_, ?_, ?_, ?_, ?_⟩ <;> rfl
def kg_cd72 : kg_Cd := [(0, (1, 2, 1, 0, 0, [])), (1, (2, 0, 1, 0, 0, [])), (2, (5, 17, 2, 11, 0, [])), (5, (6, 2, 1, 0, 0, [])), (6, (8, 0, 99, 0, 0, [])), (8, (11, 17, 5, 14, 0, [])), (11, (13, 1, 2, 0, 0, [])), (13, (14, 48, 0, 0, 0, [])), (14, (15, 3, 0, 0, 0, [])), (15, (18, 22, 5, 0, 12, [])), (18, (21, 21, 4, 0, 130, [])), (21, (22, 2, 1, 0, 0, [])), (22, (23, 7, 0, 0, 0, [])), (23, (25, 0, 99999, 0, 133, [])), (25, (28, 17, 5, 31, 0, [])), (28, (30, 1, 3, 0, 0, [])), (30, (31, 48, 0, 0, 0, [])), (31, (32, 3, 0, 0, 0, [])), (32, (35, 39, 59, 1, 52, [])), (35, (36, 0, 0, 0, 0, [])), (36, (37, 4, 2, 0, 0, [])), (37, (38, 0, 0, 0, 0, [])), (38, (39, 4, 3, 0, 0, [])), (39, (40, 2, 3, 0, 0, [])), (40, (41, 2, 1, 0, 0, [])), (41, (44, 17, 3, 60, 0, [])), (44, (45, 2, 2, 0, 0, [])), (45, (46, 3, 0, 0, 0, [])), (46, (49, 22, 5, 0, 12, [])), (49, (52, 39, 42, 1, 134, [])), (52, (53, 7, 0, 0, 0, [])), (53, (54, 4, 2, 0, 0, [])), (54, (57, 6, 3, 1, 0, [])), (57, (60, 18, 0, 39, 0, [])), (60, (61, 2, 2, 0, 0, [])), (61, (62, 48, 0, 0, 0, []))]
set_option maxRecDepth 100000 in
theorem kg_ok72 : kg_okc 5 false 4 cX5_pass kg_cd72 = true := by decide +kernel
set_option maxRecDepth 100000 in
theorem kg_lk72 : kg_lk kg_cd72 0 = some (1, 2, 1, 0, 0, []) ∧ kg_lk kg_cd72 1 = some (2, 0, 1, 0, 0, []) ∧ kg_lk kg_cd72 2 = some (5, 17, 2, 11, 0, []) ∧ kg_lk kg_cd72 5 = some (6, 2, 1, 0, 0, []) ∧ kg_lk kg_cd72 6 = some (8, 0, 99, 0, 0, []) ∧ kg_lk kg_cd72 8 = some (11, 17, 5, 14, 0, []) ∧ kg_lk kg_cd72 11 = some (13, 1, 2, 0, 0, []) ∧ kg_lk kg_cd72 13 = some (14, 48, 0, 0, 0, []) ∧ kg_lk kg_cd72 14 = some (15, 3, 0, 0, 0, []) ∧ kg_lk kg_cd72 15 = some (18, 22, 5, 0, 12, []) ∧ kg_lk kg_cd72 18 = some (21, 21, 4, 0, 130, []) ∧ kg_lk kg_cd72 21 = some (22, 2, 1, 0, 0, []) ∧ kg_lk kg_cd72 22 = some (23, 7, 0, 0, 0, []) ∧ kg_lk kg_cd72 23 = some (25, 0, 99999, 0, 133, []) ∧ kg_lk kg_cd72 25 = some (28, 17, 5, 31, 0, []) ∧ kg_lk kg_cd72 28 = some (30, 1, 3, 0, 0, []) ∧ kg_lk kg_cd72 30 = some (31, 48, 0, 0, 0, []) ∧ kg_lk kg_cd72 31 = some (32, 3, 0, 0, 0, []) ∧ kg_lk kg_cd72 32 = some (35, 39, 59, 1, 52, []) ∧ kg_lk kg_cd72 35 = some (36, 0, 0, 0, 0, []) ∧ kg_lk kg_cd72 36 = some (37, 4, 2, 0, 0, []) ∧ kg_lk kg_cd72 37 = some (38, 0, 0, 0, 0, []) ∧ kg_lk kg_cd72 38 = some (39, 4, 3, 0, 0, []) ∧ kg_lk kg_cd72 39 = some (40, 2, 3, 0, 0, []) ∧ kg_lk kg_cd72 40 = some (41, 2, 1, 0, 0, []) ∧ kg_lk kg_cd72 41 = some (44, 17, 3, 60, 0, []) ∧ kg_lk kg_cd72 44 = some (45, 2, 2, 0, 0, []) ∧ kg_lk kg_cd72 45 = some (46, 3, 0, 0, 0, []) ∧ kg_lk kg_cd72 46 = some (49, 22, 5, 0, 12, []) ∧ kg_lk kg_cd72 49 = some (52, 39, 42, 1, 134, []) ∧ kg_lk kg_cd72 52 = some (53, 7, 0, 0, 0, []) ∧ kg_lk kg_cd72 53 = some (54, 4, 2, 0, 0, []) ∧ kg_lk kg_cd72 54 = some (57, 6, 3, 1, 0, []) ∧ kg_lk kg_cd72 57 = some (60, 18, 0, 39, 0, []) ∧ kg_lk kg_cd72 60 = some (61, 2, 2, 0, 0, []) ∧ kg_lk kg_cd72 61 = some (62, 48, 0, 0, 0, []) := by refine ⟨?_, ?_, ?_, ?_, ?_, ?_, ?_, ?_, ?_, ?_, ?_, ?_, ?_, ?_, ?_, ?_, ?_, ?_, ?_, ?_, ?_, ?_, ?_, ?_, ?_, ?_, ?_, ?_, ?_, ?_, ?_, ?_, ?_, ?_, ?_, ?_⟩ <;> rfl
def kg_cd78 : kg_Cd := [(0, (1, 2, 1, 0, 0, [])), (1, (4, 40, 61, 1, 55, [])), (4, (7, 16, 0, 14, 0, [])), (7, (8, 2, 2, 0, 0, [])), (8, (11, 40, 63, 1, 66, [])), (11, (14, 16, 1, 16, 0, [])), (14, (15, 1, 1, 0, 0, [])), (15, (16, 48, 0, 0, 0, [])), (16, (17, 3, 0, 0, 0, [])), (17, (20, 22, 5, 0, 12, [])), (20, (23, 22, 4, 4, 85, [])), (23, (25, 5, 4, 0, 0, [])), (25, (26, 2, 1, 0, 0, [])), (26, (27, 2, 2, 0, 0, [])), (27, (30, 40, 64, 2, 89, [])), (30, (32, 4, 5, 0, 0, [])), (32, (34, 3, 4, 0, 0, [])), (34, (36, 2, 5, 0, 0, [])), (36, (39, 39, 7, 2, 148, [])), (39, (42, 16, 0, 46, 0, [])), (42, (43, 0, 1, 0, 0, [])), (43, (46, 18, 0, 47, 0, [])), (46, (47, 0, 0, 0, 0, [])), (47, (49, 4, 6, 0, 0, [])), (49, (50, 2, 3, 0, 0, [])), (50, (92, 19, 0, 201, 42, [(0, 92), (1, 100), (2, 108), (3, 127), (4, 146), (5, 164), (6, 182)])), (92, (94, 3, 4, 0, 0, [])), (94, (96, 2, 5, 0, 0, [])), (96, (99, 39, 7, 2, 148, [])), (99, (100, 48, 0, 0, 0, [])), (100, (102, 3, 4, 0, 0, [])), (102, (104, 2, 5, 0, 0, [])), (104, (107, 39, 9, 2, 92, [])), (107, (108, 48, 0, 0, 0, [])), (108, (110, 2, 6, 0, 0, [])), (110, (113, 16, 0, 124, 0, [])), (113, (115, 3, 4, 0, 0, [])), (115, (118, 22, 1, 0, 151, [])), (118, (120, 2, 5, 0, 0, [])), (120, (121, 27, 0, 0, 0, [])), (121, (124, 18, 0, 126, 0, [])), (124, (126, 1, 5, 0, 0, [])), (126, (127, 48, 0, 0, 0, [])), (127, (129, 2, 6, 0, 0, [])), (129, (132, 16, 0, 143, 0, [])), (132, (134, 3, 4, 0, 0, [])), (134, (137, 22, 1, 2, 154, [])), (137, (139, 2, 5, 0, 0, [])), (139, (140, 27, 0, 0, 0, [])), (140, (143, 18, 0, 145, 0, [])), (143, (145, 1, 5, 0, 0, [])), (145, (146, 48, 0, 0, 0, [])), (146, (147, 3, 0, 0, 0, [])), (147, (150, 22, 5, 0, 12, [])), (150, (151, 2, 1, 0, 0, [])), (151, (152, 2, 2, 0, 0, [])), (152, (155, 39, 38, 3, 157, [])), (155, (158, 16, 0, 162, 0, [])), (158, (159, 0, 1, 0, 0, [])), (159, (162, 18, 0, 163, 0, [])), (162, (163, 0, 0, 0, 0, [])), (163, (164, 48, 0, 0, 0, [])), (164, (165, 3, 0, 0, 0, [])), (165, (168, 22, 5, 0, 12, [])), (168, (169, 2, 1, 0, 0, [])), (169, (170, 2, 2, 0, 0, [])), (170, (173, 39, 31, 3, 160, [])), (173, (176, 16, 0, 180, 0, [])), (176, (177, 0, 1, 0, 0, [])), (177, (180, 18, 0, 181, 0, [])), (180, (181, 0, 0, 0, 0, [])), (181, (182, 48, 0, 0, 0, [])), (182, (184, 2, 6, 0, 0, [])), (184, (187, 16, 0, 198, 0, [])), (187, (189, 3, 4, 0, 0, [])), (189, (192, 22, 1, 3, 163, [])), (192, (194, 2, 5, 0, 0, [])), (194, (195, 27, 0, 0, 0, [])), (195, (198, 18, 0, 200, 0, [])), (198, (200, 1, 5, 0, 0, [])), (200, (201, 48, 0, 0, 0, [])), (201, (203, 1, 2, 0, 0, [])), (203, (204, 48, 0, 0, 0, []))]
set_option maxRecDepth 100000 in
theorem kg_ok78 : kg_okc 5 false 7 cX5_known kg_cd78 = true := by decide +kernel
set_option maxRecDepth 100000 in
theorem kg_lk78 : kg_lk kg_cd78 0 = some (1, 2, 1, 0, 0, []) ∧ kg_lk kg_cd78 1 = some (4, 40, 61, 1, 55, []) ∧ kg_lk kg_cd78 4 = some (7, 16, 0, 14, 0, []) ∧ kg_lk kg_cd78 7 = some (8, 2, 2, 0, 0, []) ∧ kg_lk kg_cd78 8 = some (11, 40, 63, 1, 66, []) ∧ kg_lk kg_cd78 11 = some (14, 16, 1, 16, 0, []) ∧ kg_lk kg_cd78 14 = some (15, 1, 1, 0, 0, []) ∧ kg_lk kg_cd78 15 = some (16, 48, 0, 0, 0, []) ∧ kg_lk kg_cd78 16 = some (17, 3, 0, 0, 0, []) ∧ kg_lk kg_cd78 17 = some (20, 22, 5, 0, 12, []) ∧ kg_lk kg_cd78 20 = some (23, 22, 4, 4, 85, []) ∧ kg_lk kg_cd78 23 = some (25, 5, 4, 0, 0, []) ∧ kg_lk kg_cd78 25 = some (26, 2, 1, 0, 0, []) ∧ kg_lk kg_cd78 26 = some (27, 2, 2, 0, 0, []) ∧ kg_lk kg_cd78 27 = some (30, 40, 64, 2, 89, []) ∧ kg_lk kg_cd78 30 = some (32, 4, 5, 0, 0, []) ∧ kg_lk kg_cd78 32 = some (34, 3, 4, 0, 0, []) ∧ kg_lk kg_cd78 34 = some (36, 2, 5, 0, 0, []) ∧ kg_lk kg_cd78 36 = some (39, 39, 7, 2, 148, []) ∧ kg_lk kg_cd78 39 = some (42, 16, 0, 46, 0, []) ∧ kg_lk kg_cd78 42 = some (43, 0, 1, 0, 0, []) ∧ kg_lk kg_cd78 43 = some (46, 18, 0, 47, 0, []) ∧ kg_lk kg_cd78 46 = some (47, 0, 0, 0, 0, []) ∧ kg_lk kg_cd78 47 = some (49, 4, 6, 0, 0, []) ∧ kg_lk kg_cd78 49 = some (50, 2, 3, 0, 0, []) ∧ kg_lk kg_cd78 50 = some (92, 19, 0, 201, 42, [(0, 92), (1, 100), (2, 108), (3, 127), (4, 146), (5, 164), (6, 182)]) ∧ kg_lk kg_cd78 92 = some (94, 3, 4, 0, 0, []) ∧ kg_lk kg_cd78 94 = some (96, 2, 5, 0, 0, []) ∧ kg_lk kg_cd78 96 = some (99, 39, 7, 2, 148, []) ∧ kg_lk kg_cd78 99 = some (100, 48, 0, 0, 0, []) ∧ kg_lk kg_cd78 100 = some (102, 3, 4, 0, 0, []) ∧ kg_lk kg_cd78 102 = some (104, 2, 5, 0, 0, []) ∧ kg_lk kg_cd78 104 = some (107, 39, 9, 2, 92, []) ∧ kg_lk kg_cd78 107 = some (108, 48, 0, 0, 0, []) ∧ kg_lk kg_cd78 108 = some (110, 2, 6, 0, 0, []) ∧ kg_lk kg_cd78 110 = some (113, 16, 0, 124, 0, []) ∧ kg_lk kg_cd78 113 = some (115, 3, 4, 0, 0, []) ∧ kg_lk kg_cd78 115 = some (118, 22, 1, 0, 151, []) ∧ kg_lk kg_cd78 118 = some (120, 2, 5, 0, 0, []) ∧ kg_lk kg_cd78 120 = some (121, 27, 0, 0, 0, []) ∧ kg_lk kg_cd78 121 = some (124, 18, 0, 126, 0, []) ∧ kg_lk kg_cd78 124 = some (126, 1, 5, 0, 0, []) ∧ kg_lk kg_cd78 126 = some (127, 48, 0, 0, 0, []) ∧ kg_lk kg_cd78 127 = some (129, 2, 6, 0, 0, []) ∧ kg_lk kg_cd78 129 = some (132, 16, 0, 143, 0, []) ∧ kg_lk kg_cd78 132 = some (134, 3, 4, 0, 0, []) ∧ kg_lk kg_cd78 134 = some (137, 22, 1, 2, 154, []) ∧ kg_lk kg_cd78 137 = some (139, 2, 5, 0, 0, []) ∧ kg_lk kg_cd78 139 = some (140, 27, 0, 0, 0, []) ∧ kg_lk kg_cd78 140 = some (143, 18, 0, 145, 0, []) ∧ kg_lk kg_cd78 143 = some (145, 1, 5, 0, 0, []) ∧ kg_lk kg_cd78 145 = some (146, 48, 0, 0, 0, []) ∧ kg_lk kg_cd78 146 = some (147, 3, 0, 0, 0, []) ∧ kg_lk kg_cd78 147 = some (150, 22, 5, 0, 12, []) ∧ kg_lk kg_cd78 150 = some (151, 2, 1, 0, 0, []) ∧ kg_lk kg_cd78 151 = some (152, 2, 2, 0, 0, []) ∧ kg_lk kg_cd78 152 = some (155, 39, 38, 3, 157, []) ∧ kg_lk kg_cd78 155 = some (158, 16, 0, 162, 0, []) ∧ kg_lk kg_cd78 158 = some (159, 0, 1, 0, 0, []) ∧ kg_lk kg_cd78 159 = some (162, 18, 0, 163, 0, []) ∧ kg_lk kg_cd78 162 = some (163, 0, 0, 0, 0, []) ∧ kg_lk kg_cd78 163 = some (164, 48, 0, 0, 0, []) ∧ kg_lk kg_cd78 164 = some (165, 3, 0, 0, 0, []) ∧ kg_lk kg_cd78 165 = some (168, 22, 5, 0, 12, []) ∧ kg_lk kg_cd78 168 = some (169, 2, 1, 0, 0, []) ∧ kg_lk kg_cd78 169 = some (170, 2, 2, 0, 0, []) ∧ kg_lk kg_cd78 170 = some (173, 39, 31, 3, 160, []) ∧ kg_lk kg_cd78 173 = some (176, 16, 0, 180, 0, []) ∧ kg_lk kg_cd78 176 = some (177, 0, 1, 0, 0, []) ∧ kg_lk kg_cd78 177 = some (180, 18, 0, 181, 0, []) ∧ kg_lk kg_cd78 180 = some (181, 0, 0, 0, 0, []) ∧ kg_lk kg_cd78 181 = some (182, 48, 0, 0, 0, []) ∧ kg_lk kg_cd78 182 = some (184, 2, 6, 0, 0, []) ∧ kg_lk kg_cd78 184 = some (187, 16, 0, 198, 0, []) ∧ kg_lk kg_cd78 187 = some (189, 3, 4, 0, 0, []) ∧ kg_lk kg_cd78 189 = some (192, 22, 1, 3, 163, []) ∧ kg_lk kg_cd78 192 = some (194, 2, 5, 0, 0, []) ∧ kg_lk kg_cd78 194 = some (195, 27, 0, 0, 0, []) ∧ kg_lk kg_cd78 195 = some (198, 18, 0, 200, 0, []) ∧ kg_lk kg_cd78 198 = some (200, 1, 5, 0, 0, []) ∧ kg_lk kg_cd78 200 = some (201, 48, 0, 0, 0, []) ∧ kg_lk kg_cd78 201 = some (203, 1, 2, 0, 0, []) ∧ kg_lk kg_cd78 203 = some (204, 48, 0, 0, 0, []) := by refine ⟨?_, ?_, ?_, ?_, ?_, ?_, ?_, ?_, ?_, ?_, ?_, ?_, ?_, ?_, ?_, ?_, ?_, ?_, ?_, ?_, ?_, ?_, ?_, ?_, ?_, ?_, ?_, ?_, ?_, ?_, ?_, ?_, ?_, ?_, ?_, ?_, ?_, ?_, ?_, ?_, ?_, ?_, ?_, ?_, ?_, ?_, ?_, ?_, ?_, ?_, ?_, ?_, ?_, ?_, ?_, ?_, ?_, ?_, ?_, ?_, ?_, ?_, ?_, ?_, ?_, ?_, ?_, ?_, ?_, ?_, ?_, ?_, ?_, ?_, ?_, ?_, ?_, ?_, ?_, ?_, ?_, ?_, ?_⟩ <;> rfl
def kg_cd79 : kg_Cd := [(0, (1, 2, 1, 0, 0, [])), (1, (4, 40, 63, 1, 66, [])), (4, (7, 16, 1, 9, 0, [])), (7, (8, 1, 1, 0, 0, [])), (8, (9, 48, 0, 0, 0, [])), (9, (10, 0, 4, 0, 0, [])), (10, (11, 2, 1, 0, 0, [])), (11, (14, 40, 64, 2, 89, [])), (14, (15, 4, 3, 0, 0, [])), (15, (16, 2, 2, 0, 0, [])), (16, (52, 19, 0, 112, 36, [(0, 52), (1, 64), (2, 76), (3, 85), (4, 94)])), (52, (53, 3, 0, 0, 0, [])), (53, (56, 22, 5, 0, 12, [])), (56, (59, 22, 4, 4, 85, [])), (59, (60, 2, 3, 0, 0, [])), (60, (63, 39, 7, 2, 148, [])), (63, (64, 48, 0, 0, 0, [])), (64, (65, 3, 0, 0, 0, [])), (65, (68, 22, 5, 0, 12, [])), (68, (71, 22, 4, 4, 85, [])), (71, (72, 2, 3, 0, 0, [])), (72, (75, 39, 9, 2, 92, [])), (75, (76, 48, 0, 0, 0, [])), (76, (77, 3, 0, 0, 0, [])), (77, (80, 22, 5, 0, 12, [])), (80, (81, 2, 1, 0, 0, [])), (81, (84, 39, 43, 2, 166, [])), (84, (85, 48, 0, 0, 0, [])), (85, (86, 3, 0, 0, 0, [])), (86, (89, 22, 5, 0, 12, [])), (89, (90, 2, 1, 0, 0, [])), (90, (93, 39, 44, 2, 169, [])), (93, (94, 48, 0, 0, 0, [])), (94, (95, 3, 0, 0, 0, [])), (95, (98, 22, 5, 0, 12, [])), (98, (99, 0, 4, 0, 0, [])), (99, (100, 2, 1, 0, 0, [])), (100, (103, 39, 45, 3, 172, [])), (103, (106, 16, 0, 110, 0, [])), (106, (107, 0, 1, 0, 0, [])), (107, (110, 18, 0, 111, 0, [])), (110, (111, 0, 0, 0, 0, [])), (111, (112, 48, 0, 0, 0, [])), (112, (114, 1, 2, 0, 0, [])), (114, (115, 48, 0, 0, 0, []))]
set_option maxRecDepth 100000 in
theorem kg_ok79 : kg_okc 5 false 4 cX5_truth kg_cd79 = true := by decide +kernel
set_option maxRecDepth 100000 in
theorem kg_lk79 : kg_lk kg_cd79 0 = some (1, 2, 1, 0, 0, []) ∧ kg_lk kg_cd79 1 = some (4, 40, 63, 1, 66, []) ∧ kg_lk kg_cd79 4 = some (7, 16, 1, 9, 0, []) ∧ kg_lk kg_cd79 7 = some (8, 1, 1, 0, 0, []) ∧ kg_lk kg_cd79 8 = some (9, 48, 0, 0, 0, []) ∧ kg_lk kg_cd79 9 = some (10, 0, 4, 0, 0, []) ∧ kg_lk kg_cd79 10 = some (11, 2, 1, 0, 0, []) ∧ kg_lk kg_cd79 11 = some (14, 40, 64, 2, 89, []) ∧ kg_lk kg_cd79 14 = some (15, 4, 3, 0, 0, []) ∧ kg_lk kg_cd79 15 = some (16, 2, 2, 0, 0, []) ∧ kg_lk kg_cd79 16 = some (52, 19, 0, 112, 36, [(0, 52), (1, 64), (2, 76), (3, 85), (4, 94)]) ∧ kg_lk kg_cd79 52 = some (53, 3, 0, 0, 0, []) ∧ kg_lk kg_cd79 53 = some (56, 22, 5, 0, 12, []) ∧ kg_lk kg_cd79 56 = some (59, 22, 4, 4, 85, []) ∧ kg_lk kg_cd79 59 = some (60, 2, 3, 0, 0, []) ∧ kg_lk kg_cd79 60 = some (63, 39, 7, 2, 148, []) ∧ kg_lk kg_cd79 63 = some (64, 48, 0, 0, 0, []) ∧ kg_lk kg_cd79 64 = some (65, 3, 0, 0, 0, []) ∧ kg_lk kg_cd79 65 = some (68, 22, 5, 0, 12, []) ∧ kg_lk kg_cd79 68 = some (71, 22, 4, 4, 85, []) ∧ kg_lk kg_cd79 71 = some (72, 2, 3, 0, 0, []) ∧ kg_lk kg_cd79 72 = some (75, 39, 9, 2, 92, []) ∧ kg_lk kg_cd79 75 = some (76, 48, 0, 0, 0, []) ∧ kg_lk kg_cd79 76 = some (77, 3, 0, 0, 0, []) ∧ kg_lk kg_cd79 77 = some (80, 22, 5, 0, 12, []) ∧ kg_lk kg_cd79 80 = some (81, 2, 1, 0, 0, []) ∧ kg_lk kg_cd79 81 = some (84, 39, 43, 2, 166, []) ∧ kg_lk kg_cd79 84 = some (85, 48, 0, 0, 0, []) ∧ kg_lk kg_cd79 85 = some (86, 3, 0, 0, 0, []) ∧ kg_lk kg_cd79 86 = some (89, 22, 5, 0, 12, []) ∧ kg_lk kg_cd79 89 = some (90, 2, 1, 0, 0, []) ∧ kg_lk kg_cd79 90 = some (93, 39, 44, 2, 169, []) ∧ kg_lk kg_cd79 93 = some (94, 48, 0, 0, 0, []) ∧ kg_lk kg_cd79 94 = some (95, 3, 0, 0, 0, []) ∧ kg_lk kg_cd79 95 = some (98, 22, 5, 0, 12, []) ∧ kg_lk kg_cd79 98 = some (99, 0, 4, 0, 0, []) ∧ kg_lk kg_cd79 99 = some (100, 2, 1, 0, 0, []) ∧ kg_lk kg_cd79 100 = some (103, 39, 45, 3, 172, []) ∧ kg_lk kg_cd79 103 = some (106, 16, 0, 110, 0, []) ∧ kg_lk kg_cd79 106 = some (107, 0, 1, 0, 0, []) ∧ kg_lk kg_cd79 107 = some (110, 18, 0, 111, 0, []) ∧ kg_lk kg_cd79 110 = some (111, 0, 0, 0, 0, []) ∧ kg_lk kg_cd79 111 = some (112, 48, 0, 0, 0, []) ∧ kg_lk kg_cd79 112 = some (114, 1, 2, 0, 0, []) ∧ kg_lk kg_cd79 114 = some (115, 48, 0, 0, 0, []) := by refine ⟨?_, ?_, ?_, ?_, ?_, ?_, ?_, ?_, ?_, ?_, ?_, ?_, ?_, ?_, ?_, ?_, ?_, ?_, ?_, ?_, ?_, ?_, ?_, ?_, ?_, ?_, ?_, ?_, ?_, ?_, ?_, ?_, ?_, ?_, ?_, ?_, ?_, ?_, ?_, ?_, ?_, ?_, ?_, ?_, ?_⟩ <;> rfl
def kg_cd80 : kg_Cd := [(0, (1, 2, 1, 0, 0, [])), (1, (4, 40, 61, 1, 55, [])), (4, (7, 16, 1, 9, 0, [])), (7, (8, 1, 1, 0, 0, [])), (8, (9, 48, 0, 0, 0, [])), (9, (10, 2, 2, 0, 0, [])), (10, (48, 19, 0, 113, 38, [(0, 48), (1, 66), (2, 76), (3, 86), (4, 95), (5, 104)])), (48, (49, 3, 0, 0, 0, [])), (49, (52, 22, 5, 0, 12, [])), (52, (55, 22, 4, 3, 58, [])), (55, (56, 2, 1, 0, 0, [])), (56, (57, 28, 0, 0, 0, [])), (57, (60, 16, 0, 64, 0, [])), (60, (61, 0, 1, 0, 0, [])), (61, (64, 18, 0, 65, 0, [])), (64, (65, 0, 0, 0, 0, [])), (65, (66, 48, 0, 0, 0, [])), (66, (67, 3, 0, 0, 0, [])), (67, (70, 22, 5, 0, 12, [])), (70, (71, 2, 1, 0, 0, [])), (71, (72, 0, 1, 0, 0, [])), (72, (75, 39, 46, 3, 175, [])), (75, (76, 48, 0, 0, 0, [])), (76, (77, 3, 0, 0, 0, [])), (77, (80, 22, 5, 0, 12, [])), (80, (81, 2, 1, 0, 0, [])), (81, (82, 0, 2, 0, 0, [])), (82, (85, 39, 46, 3, 175, [])), (85, (86, 48, 0, 0, 0, [])), (86, (87, 3, 0, 0, 0, [])), (87, (90, 22, 5, 0, 12, [])), (90, (91, 2, 1, 0, 0, [])), (91, (94, 39, 47, 2, 178, [])), (94, (95, 48, 0, 0, 0, [])), (95, (96, 3, 0, 0, 0, [])), (96, (99, 22, 5, 0, 12, [])), (99, (100, 2, 1, 0, 0, [])), (100, (103, 39, 36, 2, 101, [])), (103, (104, 48, 0, 0, 0, [])), (104, (105, 3, 0, 0, 0, [])), (105, (108, 22, 5, 0, 12, [])), (108, (109, 2, 1, 0, 0, [])), (109, (112, 39, 48, 2, 181, [])), (112, (113, 48, 0, 0, 0, [])), (113, (115, 1, 2, 0, 0, [])), (115, (116, 48, 0, 0, 0, []))]
set_option maxRecDepth 100000 in
theorem kg_ok80 : kg_okc 5 false 3 cX5_node kg_cd80 = true := by decide +kernel
set_option maxRecDepth 100000 in
theorem kg_lk80 : kg_lk kg_cd80 0 = some (1, 2, 1, 0, 0, []) ∧ kg_lk kg_cd80 1 = some (4, 40, 61, 1, 55, []) ∧ kg_lk kg_cd80 4 = some (7, 16, 1, 9, 0, []) ∧ kg_lk kg_cd80 7 = some (8, 1, 1, 0, 0, []) ∧ kg_lk kg_cd80 8 = some (9, 48, 0, 0, 0, []) ∧ kg_lk kg_cd80 9 = some (10, 2, 2, 0, 0, []) ∧ kg_lk kg_cd80 10 = some (48, 19, 0, 113, 38, [(0, 48), (1, 66), (2, 76), (3, 86), (4, 95), (5, 104)]) ∧ kg_lk kg_cd80 48 = some (49, 3, 0, 0, 0, []) ∧ kg_lk kg_cd80 49 = some (52, 22, 5, 0, 12, []) ∧ kg_lk kg_cd80 52 = some (55, 22, 4, 3, 58, []) ∧ kg_lk kg_cd80 55 = some (56, 2, 1, 0, 0, []) ∧ kg_lk kg_cd80 56 = some (57, 28, 0, 0, 0, []) ∧ kg_lk kg_cd80 57 = some (60, 16, 0, 64, 0, []) ∧ kg_lk kg_cd80 60 = some (61, 0, 1, 0, 0, []) ∧ kg_lk kg_cd80 61 = some (64, 18, 0, 65, 0, []) ∧ kg_lk kg_cd80 64 = some (65, 0, 0, 0, 0, []) ∧ kg_lk kg_cd80 65 = some (66, 48, 0, 0, 0, []) ∧ kg_lk kg_cd80 66 = some (67, 3, 0, 0, 0, []) ∧ kg_lk kg_cd80 67 = some (70, 22, 5, 0, 12, []) ∧ kg_lk kg_cd80 70 = some (71, 2, 1, 0, 0, []) ∧ kg_lk kg_cd80 71 = some (72, 0, 1, 0, 0, []) ∧ kg_lk kg_cd80 72 = some (75, 39, 46, 3, 175, []) ∧ kg_lk kg_cd80 75 = some (76, 48, 0, 0, 0, []) ∧ kg_lk kg_cd80 76 = some (77, 3, 0, 0, 0, []) ∧ kg_lk kg_cd80 77 = some (80, 22, 5, 0, 12, []) ∧ kg_lk kg_cd80 80 = some (81, 2, 1, 0, 0, []) ∧ kg_lk kg_cd80 81 = some (82, 0, 2, 0, 0, []) ∧ kg_lk kg_cd80 82 = some (85, 39, 46, 3, 175, []) ∧ kg_lk kg_cd80 85 = some (86, 48, 0, 0, 0, []) ∧ kg_lk kg_cd80 86 = some (87, 3, 0, 0, 0, []) ∧ kg_lk kg_cd80 87 = some (90, 22, 5, 0, 12, []) ∧ kg_lk kg_cd80 90 = some (91, 2, 1, 0, 0, []) ∧ kg_lk kg_cd80 91 = some (94, 39, 47, 2, 178, []) ∧ kg_lk kg_cd80 94 = some (95, 48, 0, 0, 0, []) ∧ kg_lk kg_cd80 95 = some (96, 3, 0, 0, 0, []) ∧ kg_lk kg_cd80 96 = some (99, 22, 5, 0, 12, []) ∧ kg_lk kg_cd80 99 = some (100, 2, 1, 0, 0, []) ∧ kg_lk kg_cd80 100 = some (103, 39, 36, 2, 101, []) ∧ kg_lk kg_cd80 103 = some (104, 48, 0, 0, 0, []) ∧ kg_lk kg_cd80 104 = some (105, 3, 0, 0, 0, []) ∧ kg_lk kg_cd80 105 = some (108, 22, 5, 0, 12, []) ∧ kg_lk kg_cd80 108 = some (109, 2, 1, 0, 0, []) ∧ kg_lk kg_cd80 109 = some (112, 39, 48, 2, 181, []) ∧ kg_lk kg_cd80 112 = some (113, 48, 0, 0, 0, []) ∧ kg_lk kg_cd80 113 = some (115, 1, 2, 0, 0, []) ∧ kg_lk kg_cd80 115 = some (116, 48, 0, 0, 0, []) := by refine ⟨?_, ?_, ?_, ?_, ?_, ?_, ?_, ?_, ?_, ?_, ?_, ?_, ?_, ?_, ?_, ?_, ?_, ?_, ?_, ?_, ?_, ?_, ?_, ?_, ?_, ?_, ?_, ?_, ?_, ?_, ?_, ?_, ?_, ?_, ?_, ?_, ?_, ?_, ?_, ?_, ?_, ?_, ?_, ?_, ?_, ?_⟩ <;> rfl
def kg_cd81 : kg_Cd := [(0, (1, 2, 1, 0, 0, [])), (1, (4, 40, 61, 1, 55, [])), (4, (7, 16, 0, 14, 0, [])), (7, (8, 2, 2, 0, 0, [])), (8, (11, 40, 61, 1, 55, [])), (11, (14, 16, 1, 16, 0, [])), (14, (15, 1, 1, 0, 0, [])), (15, (16, 48, 0, 0, 0, [])), (16, (17, 2, 1, 0, 0, [])), (17, (18, 2, 2, 0, 0, [])), (18, (21, 17, 1, 24, 0, [])), (21, (23, 1, 2, 0, 0, [])), (23, (24, 48, 0, 0, 0, [])), (24, (25, 2, 3, 0, 0, [])), (25, (52, 20, 0, 91, 27, [(0, 52), (1, 81)])), (52, (53, 3, 0, 0, 0, [])), (53, (56, 22, 5, 0, 12, [])), (56, (59, 22, 4, 5, 184, [])), (59, (60, 2, 1, 0, 0, [])), (60, (61, 2, 2, 0, 0, [])), (61, (64, 40, 68, 2, 187, [])), (64, (65, 27, 0, 0, 0, [])), (65, (67, 4, 4, 0, 0, [])), (67, (69, 2, 4, 0, 0, [])), (69, (70, 1, 1, 0, 0, [])), (70, (73, 17, 1, 78, 0, [])), (73, (75, 1, 5, 0, 0, [])), (75, (78, 18, 0, 80, 0, [])), (78, (80, 2, 4, 0, 0, [])), (80, (81, 48, 0, 0, 0, [])), (81, (82, 3, 0, 0, 0, [])), (82, (85, 22, 5, 0, 12, [])), (85, (86, 2, 1, 0, 0, [])), (86, (87, 2, 2, 0, 0, [])), (87, (90, 39, 35, 3, 190, [])), (90, (91, 48, 0, 0, 0, [])), (91, (93, 1, 2, 0, 0, [])), (93, (94, 48, 0, 0, 0, []))]
set_option maxRecDepth 100000 in
theorem kg_ok81 : kg_okc 5 false 5 cX5_pair kg_cd81 = true := by decide +kernel
set_option maxRecDepth 100000 in
theorem kg_lk81 : kg_lk kg_cd81 0 = some (1, 2, 1, 0, 0, []) ∧ kg_lk kg_cd81 1 = some (4, 40, 61, 1, 55, []) ∧ kg_lk kg_cd81 4 = some (7, 16, 0, 14, 0, []) ∧ kg_lk kg_cd81 7 = some (8, 2, 2, 0, 0, []) ∧ kg_lk kg_cd81 8 = some (11, 40, 61, 1, 55, []) ∧ kg_lk kg_cd81 11 = some (14, 16, 1, 16, 0, []) ∧ kg_lk kg_cd81 14 = some (15, 1, 1, 0, 0, []) ∧ kg_lk kg_cd81 15 = some (16, 48, 0, 0, 0, []) ∧ kg_lk kg_cd81 16 = some (17, 2, 1, 0, 0, []) ∧ kg_lk kg_cd81 17 = some (18, 2, 2, 0, 0, []) ∧ kg_lk kg_cd81 18 = some (21, 17, 1, 24, 0, []) ∧ kg_lk kg_cd81 21 = some (23, 1, 2, 0, 0, []) ∧ kg_lk kg_cd81 23 = some (24, 48, 0, 0, 0, []) ∧ kg_lk kg_cd81 24 = some (25, 2, 3, 0, 0, []) ∧ kg_lk kg_cd81 25 = some (52, 20, 0, 91, 27, [(0, 52), (1, 81)]) ∧ kg_lk kg_cd81 52 = some (53, 3, 0, 0, 0, []) ∧ kg_lk kg_cd81 53 = some (56, 22, 5, 0, 12, []) ∧ kg_lk kg_cd81 56 = some (59, 22, 4, 5, 184, []) ∧ kg_lk kg_cd81 59 = some (60, 2, 1, 0, 0, []) ∧ kg_lk kg_cd81 60 = some (61, 2, 2, 0, 0, []) ∧ kg_lk kg_cd81 61 = some (64, 40, 68, 2, 187, []) ∧ kg_lk kg_cd81 64 = some (65, 27, 0, 0, 0, []) ∧ kg_lk kg_cd81 65 = some (67, 4, 4, 0, 0, []) ∧ kg_lk kg_cd81 67 = some (69, 2, 4, 0, 0, []) ∧ kg_lk kg_cd81 69 = some (70, 1, 1, 0, 0, []) ∧ kg_lk kg_cd81 70 = some (73, 17, 1, 78, 0, []) ∧ kg_lk kg_cd81 73 = some (75, 1, 5, 0, 0, []) ∧ kg_lk kg_cd81 75 = some (78, 18, 0, 80, 0, []) ∧ kg_lk kg_cd81 78 = some (80, 2, 4, 0, 0, []) ∧ kg_lk kg_cd81 80 = some (81, 48, 0, 0, 0, []) ∧ kg_lk kg_cd81 81 = some (82, 3, 0, 0, 0, []) ∧ kg_lk kg_cd81 82 = some (85, 22, 5, 0, 12, []) ∧ kg_lk kg_cd81 85 = some (86, 2, 1, 0, 0, []) ∧ kg_lk kg_cd81 86 = some (87, 2, 2, 0, 0, []) ∧ kg_lk kg_cd81 87 = some (90, 39, 35, 3, 190, []) ∧ kg_lk kg_cd81 90 = some (91, 48, 0, 0, 0, []) ∧ kg_lk kg_cd81 91 = some (93, 1, 2, 0, 0, []) ∧ kg_lk kg_cd81 93 = some (94, 48, 0, 0, 0, []) := by refine ⟨?_, ?_, ?_, ?_, ?_, ?_, ?_, ?_, ?_, ?_, ?_, ?_, ?_, ?_, ?_, ?_, ?_, ?_, ?_, ?_, ?_, ?_, ?_, ?_, ?_, ?_, ?_, ?_, ?_, ?_, ?_, ?_, ?_, ?_, ?_, ?_, ?_, ?_⟩ <;> rfl
def kg_cd82 : kg_Cd := [(0, (1, 3, 0, 0, 0, [])), (1, (4, 22, 5, 0, 12, [])), (4, (7, 39, 49, 1, 193, [])), (7, (8, 48, 0, 0, 0, []))]
set_option maxRecDepth 100000 in
theorem kg_ok82 : kg_okc 5 false 1 cX5_slowest kg_cd82 = true := by decide +kernel
set_option maxRecDepth 100000 in
theorem kg_lk82 : kg_lk kg_cd82 0 = some (1, 3, 0, 0, 0, []) ∧ kg_lk kg_cd82 1 = some (4, 22, 5, 0, 12, []) ∧ kg_lk kg_cd82 4 = some (7, 39, 49, 1, 193, []) ∧ kg_lk kg_cd82 7 = some (8, 48, 0, 0, 0, []) := by refine ⟨?_, ?_, ?_, ?_⟩ <;> rfl
def kg_cd83 : kg_Cd := [(0, (1, 3, 0, 0, 0, [])), (1, (4, 22, 5, 0, 12, [])), (4, (7, 39, 50, 1, 196, [])), (7, (8, 48, 0, 0, 0, []))]
set_option maxRecDepth 100000 in
theorem kg_ok83 : kg_okc 5 false 1 cX5_graceNeeded kg_cd83 = true := by decide +kernel
set_option maxRecDepth 100000 in
theorem kg_lk83 : kg_lk kg_cd83 0 = some (1, 3, 0, 0, 0, []) ∧ kg_lk kg_cd83 1 = some (4, 22, 5, 0, 12, []) ∧ kg_lk kg_cd83 4 = some (7, 39, 50, 1, 196, []) ∧ kg_lk kg_cd83 7 = some (8, 48, 0, 0, 0, []) := by refine ⟨?_, ?_, ?_, ?_⟩ <;> rfl
def kg_cd86 : kg_Cd := [(0, (1, 2, 1, 0, 0, [])), (1, (68, 19, 0, 192, 67, [(0, 68), (1, 76), (2, 84), (3, 97), (4, 110), (5, 123), (6, 136), (7, 144), (8, 152), (9, 163), (10, 171), (11, 179), (12, 184)])), (68, (69, 3, 0, 0, 0, [])), (69, (72, 22, 5, 0, 12, [])), (72, (75, 21, 4, 0, 130, [])), (75, (76, 48, 0, 0, 0, [])), (76, (77, 3, 0, 0, 0, [])), (77, (80, 22, 5, 0, 12, [])), (80, (83, 21, 4, 1, 226, [])), (83, (84, 48, 0, 0, 0, [])), (84, (85, 3, 0, 0, 0, [])), (85, (88, 22, 5, 0, 12, [])), (88, (91, 22, 4, 7, 199, [])), (91, (94, 22, 0, 2, 229, [])), (94, (95, 0, 0, 0, 0, [])), (95, (96, 27, 0, 0, 0, [])), (96, (97, 48, 0, 0, 0, [])), (97, (98, 3, 0, 0, 0, [])), (98, (101, 22, 5, 0, 12, [])), (101, (104, 22, 4, 7, 199, [])), (104, (107, 22, 0, 2, 229, [])), (107, (108, 0, 1, 0, 0, [])), (108, (109, 27, 0, 0, 0, [])), (109, (110, 48, 0, 0, 0, [])), (110, (111, 3, 0, 0, 0, [])), (111, (114, 22, 5, 0, 12, [])), (114, (117, 22, 4, 7, 199, [])), (117, (120, 22, 0, 2, 229, [])), (120, (121, 0, 2, 0, 0, [])), (121, (122, 27, 0, 0, 0, [])), (122, (123, 48, 0, 0, 0, [])), (123, (124, 3, 0, 0, 0, [])), (124, (127, 22, 5, 0, 12, [])), (127, (130, 22, 4, 7, 199, [])), (130, (133, 22, 0, 2, 229, [])), (133, (134, 0, 3, 0, 0, [])), (134, (135, 27, 0, 0, 0, [])), (135, (136, 48, 0, 0, 0, [])), (136, (137, 3, 0, 0, 0, [])), (137, (140, 22, 5, 0, 12, [])), (140, (143, 39, 52, 1, 232, [])), (143, (144, 48, 0, 0, 0, [])), (144, (145, 3, 0, 0, 0, [])), (145, (148, 22, 5, 0, 12, [])), (148, (151, 39, 53, 1, 235, [])), (151, (152, 48, 0, 0, 0, [])), (152, (153, 3, 0, 0, 0, [])), (153, (156, 22, 5, 0, 12, [])), (156, (159, 22, 4, 6, 107, [])), (159, (162, 21, 2, 0, 111, [])), (162, (163, 48, 0, 0, 0, [])), (163, (164, 3, 0, 0, 0, [])), (164, (167, 22, 5, 0, 12, [])), (167, (170, 39, 23, 1, 62, [])), (170, (171, 48, 0, 0, 0, [])), (171, (172, 3, 0, 0, 0, [])), (172, (175, 22, 5, 0, 12, [])), (175, (178, 39, 54, 1, 238, [])), (178, (179, 48, 0, 0, 0, [])), (179, (180, 3, 0, 0, 0, [])), (180, (183, 21, 5, 2, 20, [])), (183, (184, 48, 0, 0, 0, [])), (184, (185, 3, 0, 0, 0, [])), (185, (188, 22, 5, 5, 34, [])), (188, (191, 21, 3, 1, 137, [])), (191, (192, 48, 0, 0, 0, [])), (192, (194, 1, 2, 0, 0, [])), (194, (195, 48, 0, 0, 0, []))]
set_option maxRecDepth 100000 in
theorem kg_ok86 : kg_okc 5 false 2 cX5_count kg_cd86 = true := by decide +kernel
set_option maxRecDepth 100000 in
theorem kg_lk86 : kg_lk kg_cd86 0 = some (1, 2, 1, 0, 0, []) ∧ kg_lk kg_cd86 1 = some (68, 19, 0, 192, 67, [(0, 68), (1, 76), (2, 84), (3, 97), (4, 110), (5, 123), (6, 136), (7, 144), (8, 152), (9, 163), (10, 171), (11, 179), (12, 184)]) ∧ kg_lk kg_cd86 68 = some (69, 3, 0, 0, 0, []) ∧ kg_lk kg_cd86 69 = some (72, 22, 5, 0, 12, []) ∧ kg_lk kg_cd86 72 = some (75, 21, 4, 0, 130, []) ∧ kg_lk kg_cd86 75 = some (76, 48, 0, 0, 0, []) ∧ kg_lk kg_cd86 76 = some (77, 3, 0, 0, 0, []) ∧ kg_lk kg_cd86 77 = some (80, 22, 5, 0, 12, []) ∧ kg_lk kg_cd86 80 = some (83, 21, 4, 1, 226, []) ∧ kg_lk kg_cd86 83 = some (84, 48, 0, 0, 0, []) ∧ kg_lk kg_cd86 84 = some (85, 3, 0, 0, 0, []) ∧ kg_lk kg_cd86 85 = some (88, 22, 5, 0, 12, []) ∧ kg_lk kg_cd86 88 = some (91, 22, 4, 7, 199, []) ∧ kg_lk kg_cd86 91 = some (94, 22, 0, 2, 229, []) ∧ kg_lk kg_cd86 94 = some (95, 0, 0, 0, 0, []) ∧ kg_lk kg_cd86 95 = some (96, 27, 0, 0, 0, []) ∧ kg_lk kg_cd86 96 = some (97, 48, 0, 0, 0, []) ∧ kg_lk kg_cd86 97 = some (98, 3, 0, 0, 0, []) ∧ kg_lk kg_cd86 98 = some (101, 22, 5, 0, 12, []) ∧ kg_lk kg_cd86 101 = some (104, 22, 4, 7, 199, []) ∧ kg_lk kg_cd86 104 = some (107, 22, 0, 2, 229, []) ∧ kg_lk kg_cd86 107 = some (108, 0, 1, 0, 0, []) ∧ kg_lk kg_cd86 108 = some (109, 27, 0, 0, 0, []) ∧ kg_lk kg_cd86 109 = some (110, 48, 0, 0, 0, []) ∧ kg_lk kg_cd86 110 = some (111, 3, 0, 0, 0, []) ∧ kg_lk kg_cd86 111 = some (114, 22, 5, 0, 12, []) ∧ kg_lk kg_cd86 114 = some (117, 22, 4, 7, 199, []) ∧ kg_lk kg_cd86 117 = some (120, 22, 0, 2, 229, []) ∧ kg_lk kg_cd86 120 = some (121, 0, 2, 0, 0, []) ∧ kg_lk kg_cd86 121 = some (122, 27, 0, 0, 0, []) ∧ kg_lk kg_cd86 122 = some (123, 48, 0, 0, 0, []) ∧ kg_lk kg_cd86 123 = some (124, 3, 0, 0, 0, []) ∧ kg_lk kg_cd86 124 = some (127, 22, 5, 0, 12, []) ∧ kg_lk kg_cd86 127 = some (130, 22, 4, 7, 199, []) ∧ kg_lk kg_cd86 130 = some (133, 22, 0, 2, 229, []) ∧ kg_lk kg_cd86 133 = some (134, 0, 3, 0, 0, []) ∧ kg_lk kg_cd86 134 = some (135, 27, 0, 0, 0, []) ∧ kg_lk kg_cd86 135 = some (136, 48, 0, 0, 0, []) ∧ kg_lk kg_cd86 136 = some (137, 3, 0, 0, 0, []) ∧ kg_lk kg_cd86 137 = some (140, 22, 5, 0, 12, []) ∧ kg_lk kg_cd86 140 = some (143, 39, 52, 1, 232, []) ∧ kg_lk kg_cd86 143 = some (144, 48, 0, 0, 0, []) ∧ kg_lk kg_cd86 144 = some (145, 3, 0, 0, 0, []) ∧ kg_lk kg_cd86 145 = some (148, 22, 5, 0, 12, []) ∧ kg_lk kg_cd86 148 = some (151, 39, 53, 1, 235, []) ∧ kg_lk kg_cd86 151 = some (152, 48, 0, 0, 0, []) ∧ kg_lk kg_cd86 152 = some (153, 3, 0, 0, 0, []) ∧ kg_lk kg_cd86 153 = some (156, 22, 5, 0, 12, []) ∧ kg_lk kg_cd86 156 = some (159, 22, 4, 6, 107, []) ∧ kg_lk kg_cd86 159 = some (162, 21, 2, 0, 111, []) ∧ kg_lk kg_cd86 162 = some (163, 48, 0, 0, 0, []) ∧ kg_lk kg_cd86 163 = some (164, 3, 0, 0, 0, []) ∧ kg_lk kg_cd86 164 = some (167, 22, 5, 0, 12, []) ∧ kg_lk kg_cd86 167 = some (170, 39, 23, 1, 62, []) ∧ kg_lk kg_cd86 170 = some (171, 48, 0, 0, 0, []) ∧ kg_lk kg_cd86 171 = some (172, 3, 0, 0, 0, []) ∧ kg_lk kg_cd86 172 = some (175, 22, 5, 0, 12, []) ∧ kg_lk kg_cd86 175 = some (178, 39, 54, 1, 238, []) ∧ kg_lk kg_cd86 178 = some (179, 48, 0, 0, 0, []) ∧ kg_lk kg_cd86 179 = some (180, 3, 0, 0, 0, []) ∧ kg_lk kg_cd86 180 = some (183, 21, 5, 2, 20, []) ∧ kg_lk kg_cd86 183 = some (184, 48, 0, 0, 0, []) ∧ kg_lk kg_cd86 184 = some (185, 3, 0, 0, 0, []) ∧ kg_lk kg_cd86 185 = some (188, 22, 5, 5, 34, []) ∧ kg_lk kg_cd86 188 = some (191, 21, 3, 1, 137, []) ∧ kg_lk kg_cd86 191 = some (192, 48, 0, 0, 0, []) ∧ kg_lk kg_cd86 192 = some (194, 1, 2, 0, 0, []) ∧ kg_lk kg_cd86 194 = some (195, 48, 0, 0, 0, []) := by refine ⟨?_, ?_, ?_, ?_, ?_, ?_, ?_, ?_, ?_, ?_, ?_, ?_, ?_, ?_, ?_, ?_, ?_, ?_, ?_, ?_, ?_, ?_, ?_, ?_, ?_, ?_, ?_, ?_, ?_, ?_, ?_, ?_, ?_, ?_, ?_, ?_, ?_, ?_, ?_, ?_, ?_, ?_, ?_, ?_, ?_, ?_, ?_, ?_, ?_, ?_, ?_, ?_, ?_, ?_, ?_, ?_, ?_, ?_, ?_, ?_, ?_, ?_, ?_, ?_, ?_, ?_, ?_, ?_⟩ <;> rfl
def kg_cd87 : kg_Cd := [(0, (1, 2, 1, 0, 0, [])), (1, (4, 40, 58, 1, 38, [])), (4, (7, 16, 1, 9, 0, [])), (7, (8, 1, 1, 0, 0, [])), (8, (9, 48, 0, 0, 0, [])), (9, (10, 3, 0, 0, 0, [])), (10, (13, 22, 5, 0, 12, [])), (13, (16, 22, 4, 2, 49, [])), (16, (17, 2, 1, 0, 0, [])), (17, (18, 27, 0, 0, 0, [])), (18, (19, 48, 0, 0, 0, []))]
set_option maxRecDepth 100000 in
theorem kg_ok87 : kg_okc 5 false 2 cX5_setting kg_cd87 = true := by decide +kernel
set_option maxRecDepth 100000 in
theorem kg_lk87 : kg_lk kg_cd87 0 = some (1, 2, 1, 0, 0, []) ∧ kg_lk kg_cd87 1 = some (4, 40, 58, 1, 38, []) ∧ kg_lk kg_cd87 4 = some (7, 16, 1, 9, 0, []) ∧ kg_lk kg_cd87 7 = some (8, 1, 1, 0, 0, []) ∧ kg_lk kg_cd87 8 = some (9, 48, 0, 0, 0, []) ∧ kg_lk kg_cd87 9 = some (10, 3, 0, 0, 0, []) ∧ kg_lk kg_cd87 10 = some (13, 22, 5, 0, 12, []) ∧ kg_lk kg_cd87 13 = some (16, 22, 4, 2, 49, []) ∧ kg_lk kg_cd87 16 = some (17, 2, 1, 0, 0, []) ∧ kg_lk kg_cd87 17 = some (18, 27, 0, 0, 0, []) ∧ kg_lk kg_cd87 18 = some (19, 48, 0, 0, 0, []) := by refine ⟨?_, ?_, ?_, ?_, ?_, ?_, ?_, ?_, ?_, ?_, ?_⟩ <;> rfl
end
section
/-! the rows of the methods as numbers (printed by wip/p28/gen10.py) -/
def kg_cd88 : kg_Cd := [(0, (1, 2, 1, 0, 0, [])), (1, (2, 3, 0, 0, 0, [])), (2, (3, 35, 0, 0, 0, [])), (3, (6, 17, 3, 12, 0, [])), (6, (7, 3, 0, 0, 0, [])), (7, (8, 2, 1, 0, 0, [])), (8, (9, 27, 0, 0, 0, [])), (9, (12, 18, 0, 24, 0, [])), (12, (15, 0, 7919, 0, 0, [])), (15, (16, 2, 1, 0, 0, [])), (16, (17, 0, 3, 0, 0, [])), (17, (18, 7, 0, 0, 0, [])), (18, (19, 9, 0, 0, 0, [])), (19, (20, 2, 1, 0, 0, [])), (20, (22, 0, 11, 0, 0, [])), (22, (23, 7, 0, 0, 0, [])), (23, (24, 9, 0, 0, 0, [])), (24, (25, 48, 0, 0, 0, []))]
set_option maxRecDepth 100000 in
theorem kg_ok88 : kg_okc 6 false 2 cL_cell kg_cd88 = true := by decide +kernel
set_option maxRecDepth 100000 in
theorem kg_lk88 : kg_lk kg_cd88 0 = some (1, 2, 1, 0, 0, []) ∧ kg_lk kg_cd88 1 = some (2, 3, 0, 0, 0, []) ∧ kg_lk kg_cd88 2 = some (3, 35, 0, 0, 0, []) ∧ kg_lk kg_cd88 3 = some (6, 17, 3, 12, 0, []) ∧ kg_lk kg_cd88 6 = some (7, 3, 0, 0, 0, []) ∧ kg_lk kg_cd88 7 = some (8, 2, 1, 0, 0, []) ∧ kg_lk kg_cd88 8 = some (9, 27, 0, 0, 0, []) ∧ kg_lk kg_cd88 9 = some (12, 18, 0, 24, 0, []) ∧ kg_lk kg_cd88 12 = some (15, 0, 7919, 0, 0, []) ∧ kg_lk kg_cd88 15 = some (16, 2, 1, 0, 0, []) ∧ kg_lk kg_cd88 16 = some (17, 0, 3, 0, 0, []) ∧ kg_lk kg_cd88 17 = some (18, 7, 0, 0, 0, []) ∧ kg_lk kg_cd88 18 = some (19, 9, 0, 0, 0, []) ∧ kg_lk kg_cd88 19 = some (20, 2, 1, 0, 0, []) ∧ kg_lk kg_cd88 20 = some (22, 0, 11, 0, 0, []) ∧ kg_lk kg_cd88 22 = some (23, 7, 0, 0, 0, []) ∧ kg_lk kg_cd88 23 = some (24, 9, 0, 0, 0, []) ∧ kg_lk kg_cd88 24 = some (25, 48, 0, 0, 0, []) := by refine ⟨?_, ?_, ?_, ?_, ?_, ?_, ?_, ?_, ?_, ?_, ?_, ?_, ?_, ?_, ?_, ?_, ?_, ?_⟩ <;> rfl
def kg_cd89 : kg_Cd := [(0, (1, 2, 0, 0, 0, [])), (1, (3, 0, 2147483647, 0, 7, [])), (3, (4, 11, 0, 0, 0, [])), (4, (5, 2, 1, 0, 0, [])), (5, (6, 10, 0, 0, 0, [])), (6, (7, 48, 0, 0, 0, []))]
set_option maxRecDepth 100000 in
theorem kg_ok89 : kg_okc 6 false 2 cL_low kg_cd89 = true := by decide +kernel
set_option maxRecDepth 100000 in
theorem kg_lk89 : kg_lk kg_cd89 0 = some (1, 2, 0, 0, 0, []) ∧ kg_lk kg_cd89 1 = some (3, 0, 2147483647, 0, 7, []) ∧ kg_lk kg_cd89 3 = some (4, 11, 0, 0, 0, []) ∧ kg_lk kg_cd89 4 = some (5, 2, 1, 0, 0, []) ∧ kg_lk kg_cd89 5 = some (6, 10, 0, 0, 0, []) ∧ kg_lk kg_cd89 6 = some (7, 48, 0, 0, 0, []) := by refine ⟨?_, ?_, ?_, ?_, ?_, ?_⟩ <;> rfl
def kg_cd90 : kg_Cd := [(0, (1, 3, 0, 0, 0, [])), (1, (2, 2, 1, 0, 0, [])), (2, (3, 2, 2, 0, 0, [])), (3, (4, 0, 2, 0, 0, [])), (4, (7, 39, 78, 4, 8, [])), (7, (8, 4, 3, 0, 0, [])), (8, (9, 2, 3, 0, 0, [])), (9, (11, 1, 5, 0, 0, [])), (11, (14, 17, 1, 18, 0, [])), (14, (15, 0, 0, 0, 0, [])), (15, (18, 18, 0, 19, 0, [])), (18, (19, 2, 3, 0, 0, [])), (19, (20, 48, 0, 0, 0, []))]
set_option maxRecDepth 100000 in
theorem kg_ok90 : kg_okc 6 false 4 cL_stamp kg_cd90 = true := by decide +kernel
set_option maxRecDepth 100000 in
theorem kg_lk90 : kg_lk kg_cd90 0 = some (1, 3, 0, 0, 0, []) ∧ kg_lk kg_cd90 1 = some (2, 2, 1, 0, 0, []) ∧ kg_lk kg_cd90 2 = some (3, 2, 2, 0, 0, []) ∧ kg_lk kg_cd90 3 = some (4, 0, 2, 0, 0, []) ∧ kg_lk kg_cd90 4 = some (7, 39, 78, 4, 8, []) ∧ kg_lk kg_cd90 7 = some (8, 4, 3, 0, 0, []) ∧ kg_lk kg_cd90 8 = some (9, 2, 3, 0, 0, []) ∧ kg_lk kg_cd90 9 = some (11, 1, 5, 0, 0, []) ∧ kg_lk kg_cd90 11 = some (14, 17, 1, 18, 0, []) ∧ kg_lk kg_cd90 14 = some (15, 0, 0, 0, 0, []) ∧ kg_lk kg_cd90 15 = some (18, 18, 0, 19, 0, []) ∧ kg_lk kg_cd90 18 = some (19, 2, 3, 0, 0, []) ∧ kg_lk kg_cd90 19 = some (20, 48, 0, 0, 0, []) := by refine ⟨?_, ?_, ?_, ?_, ?_, ?_, ?_, ?_, ?_, ?_, ?_, ?_, ?_⟩ <;> rfl
def kg_cd91 : kg_Cd := [(0, (1, 2, 2, 0, 0, [])), (1, (2, 0, 4, 0, 0, [])), (2, (3, 50, 0, 0, 0, [])), (3, (4, 0, 3, 0, 0, [])), (4, (5, 11, 0, 0, 0, [])), (5, (6, 4, 3, 0, 0, [])), (6, (7, 2, 2, 0, 0, [])), (7, (9, 0, 6, 0, 0, [])), (9, (10, 50, 0, 0, 0, [])), (10, (11, 0, 3, 0, 0, [])), (11, (12, 11, 0, 0, 0, [])), (12, (14, 4, 4, 0, 0, [])), (14, (15, 3, 0, 0, 0, [])), (15, (16, 0, 1, 0, 0, [])), (16, (19, 39, 86, 2, 14, [])), (19, (21, 4, 5, 0, 0, [])), (21, (22, 2, 2, 0, 0, [])), (22, (24, 0, 15, 0, 0, [])), (24, (25, 11, 0, 0, 0, [])), (25, (84, 19, 0, 269, 59, [(0, 84), (1, 84), (2, 105), (3, 105), (4, 105), (5, 117), (6, 129), (7, 129), (8, 139), (9, 164), (10, 242)])), (84, (85, 3, 0, 0, 0, [])), (85, (86, 2, 3, 0, 0, [])), (86, (88, 2, 4, 0, 0, [])), (88, (89, 2, 2, 0, 0, [])), (89, (91, 0, 8, 0, 0, [])), (91, (92, 50, 0, 0, 0, [])), (92, (94, 0, 100, 0, 0, [])), (94, (97, 40, 89, 2, 18, [])), (97, (100, 39, 62, 4, 24, [])), (100, (102, 4, 6, 0, 0, [])), (102, (105, 18, 0, 285, 0, [])), (105, (106, 3, 0, 0, 0, [])), (106, (107, 2, 3, 0, 0, [])), (107, (109, 2, 4, 0, 0, [])), (109, (112, 39, 65, 3, 27, [])), (112, (114, 4, 6, 0, 0, [])), (114, (117, 18, 0, 285, 0, [])), (117, (118, 3, 0, 0, 0, [])), (118, (119, 2, 3, 0, 0, [])), (119, (121, 2, 4, 0, 0, [])), (121, (124, 39, 66, 3, 30, [])), (124, (126, 4, 6, 0, 0, [])), (126, (129, 18, 0, 285, 0, [])), (129, (130, 3, 0, 0, 0, [])), (130, (131, 2, 3, 0, 0, [])), (131, (134, 39, 69, 2, 33, [])), (134, (136, 4, 6, 0, 0, [])), (136, (139, 18, 0, 285, 0, [])), (139, (140, 3, 0, 0, 0, [])), (140, (141, 2, 3, 0, 0, [])), (141, (142, 2, 2, 0, 0, [])), (142, (144, 0, 6, 0, 0, [])), (144, (145, 50, 0, 0, 0, [])), (145, (146, 0, 1, 0, 0, [])), (146, (147, 11, 0, 0, 0, [])), (147, (148, 0, 1, 0, 0, [])), (148, (151, 17, 1, 155, 0, [])), (151, (152, 0, 1, 0, 0, [])), (152, (155, 18, 0, 156, 0, [])), (155, (156, 0, 0, 0, 0, [])), (156, (159, 39, 60, 3, 36, [])), (159, (161, 4, 6, 0, 0, [])), (161, (164, 18, 0, 285, 0, [])), (164, (165, 2, 2, 0, 0, [])), (165, (167, 0, 6, 0, 0, [])), (167, (168, 50, 0, 0, 0, [])), (168, (169, 0, 1, 0, 0, [])), (169, (170, 11, 0, 0, 0, [])), (170, (173, 16, 1, 193, 0, [])), (173, (174, 3, 0, 0, 0, [])), (174, (175, 2, 2, 0, 0, [])), (175, (176, 0, 4, 0, 0, [])), (176, (177, 50, 0, 0, 0, [])), (177, (178, 0, 1, 0, 0, [])), (178, (179, 11, 0, 0, 0, [])), (179, (180, 0, 1, 0, 0, [])), (180, (181, 2, 2, 0, 0, [])), (181, (183, 0, 7, 0, 0, [])), (183, (184, 50, 0, 0, 0, [])), (184, (185, 0, 3, 0, 0, [])), (185, (186, 11, 0, 0, 0, [])), (186, (187, 7, 0, 0, 0, [])), (187, (190, 39, 57, 3, 40, [])), (190, (193, 18, 0, 237, 0, [])), (193, (194, 2, 2, 0, 0, [])), (194, (195, 0, 4, 0, 0, [])), (195, (196, 50, 0, 0, 0, [])), (196, (197, 0, 1, 0, 0, [])), (197, (198, 11, 0, 0, 0, [])), (198, (201, 16, 1, 220, 0, [])), (201, (202, 3, 0, 0, 0, [])), (202, (203, 0, 2, 0, 0, [])), (203, (204, 0, 1, 0, 0, [])), (204, (205, 2, 2, 0, 0, [])), (205, (207, 0, 7, 0, 0, [])), (207, (208, 50, 0, 0, 0, [])), (208, (210, 0, 20, 0, 0, [])), (210, (213, 40, 89, 2, 18, [])), (213, (214, 7, 0, 0, 0, [])), (214, (217, 39, 57, 3, 40, [])), (217, (220, 18, 0, 237, 0, [])), (220, (221, 3, 0, 0, 0, [])), (221, (222, 0, 3, 0, 0, [])), (222, (223, 2, 2, 0, 0, [])), (223, (224, 0, 5, 0, 0, [])), (224, (225, 50, 0, 0, 0, [])), (225, (226, 0, 1, 0, 0, [])), (226, (227, 11, 0, 0, 0, [])), (227, (228, 7, 0, 0, 0, [])), (228, (229, 2, 2, 0, 0, [])), (229, (231, 0, 7, 0, 0, [])), (231, (232, 50, 0, 0, 0, [])), (232, (233, 0, 1, 0, 0, [])), (233, (234, 11, 0, 0, 0, [])), (234, (237, 39, 57, 3, 40, [])), (237, (239, 4, 6, 0, 0, [])), (239, (242, 18, 0, 285, 0, [])), (242, (243, 3, 0, 0, 0, [])), (243, (244, 2, 3, 0, 0, [])), (244, (246, 2, 4, 0, 0, [])), (246, (247, 3, 0, 0, 0, [])), (247, (248, 0, 0, 0, 0, [])), (248, (251, 39, 86, 2, 14, [])), (251, (252, 2, 2, 0, 0, [])), (252, (254, 0, 8, 0, 0, [])), (254, (255, 50, 0, 0, 0, [])), (255, (257, 0, 12, 0, 0, [])), (257, (260, 40, 89, 2, 18, [])), (260, (261, 7, 0, 0, 0, [])), (261, (264, 39, 70, 4, 43, [])), (264, (266, 4, 6, 0, 0, [])), (266, (269, 18, 0, 285, 0, [])), (269, (270, 3, 0, 0, 0, [])), (270, (271, 0, 1, 0, 0, [])), (271, (272, 2, 2, 0, 0, [])), (272, (273, 0, 4, 0, 0, [])), (273, (274, 50, 0, 0, 0, [])), (274, (276, 0, 6, 0, 0, [])), (276, (279, 40, 89, 2, 18, [])), (279, (280, 7, 0, 0, 0, [])), (280, (283, 39, 72, 2, 46, [])), (283, (285, 4, 6, 0, 0, [])), (285, (286, 3, 1, 0, 0, [])), (286, (288, 2, 4, 0, 0, [])), (288, (289, 3, 0, 0, 0, [])), (289, (290, 0, 1, 0, 0, [])), (290, (293, 39, 86, 2, 14, [])), (293, (295, 2, 5, 0, 0, [])), (295, (298, 17, 5, 306, 0, [])), (298, (299, 3, 0, 0, 0, [])), (299, (300, 0, 1, 0, 0, [])), (300, (303, 39, 86, 2, 14, [])), (303, (306, 18, 0, 310, 0, [])), (306, (307, 3, 1, 0, 0, [])), (307, (309, 2, 4, 0, 0, [])), (309, (310, 27, 0, 0, 0, [])), (310, (311, 31, 0, 0, 0, [])), (311, (313, 2, 6, 0, 0, [])), (313, (314, 48, 0, 0, 0, []))]
set_option maxRecDepth 100000 in
theorem kg_ok91 : kg_okc 6 false 7 cL_does kg_cd91 = true := by decide +kernel
set_option maxRecDepth 100000 in
theorem kg_lk91 : kg_lk kg_cd91 0 = some (1, 2, 2, 0, 0, []) ∧ kg_lk kg_cd91 1 = some (2, 0, 4, 0, 0, []) ∧ kg_lk kg_cd91 2 = some (3, 50, 0, 0, 0, []) ∧ kg_lk kg_cd91 3 = some (4, 0, 3, 0, 0, []) ∧ kg_lk kg_cd91 4 = some (5, 11, 0, 0, 0, []) ∧ kg_lk kg_cd91 5 = some (6, 4, 3, 0, 0, []) ∧ kg_lk kg_cd91 6 = some (7, 2, 2, 0, 0, []) ∧ kg_lk kg_cd91 7 = some (9, 0, 6, 0, 0, []) ∧ kg_lk kg_cd91 9 = some (10, 50, 0, 0, 0, []) ∧ kg_lk kg_cd91 10 = some (11, 0, 3, 0, 0, []) ∧ kg_lk kg_cd91 11 = some (12, 11, 0, 0, 0, []) ∧ kg_lk kg_cd91 12 = some (14, 4, 4, 0, 0, []) ∧ kg_lk kg_cd91 14 = some (15, 3, 0, 0, 0, []) ∧ kg_lk kg_cd91 15 = some (16, 0, 1, 0, 0, []) ∧ kg_lk kg_cd91 16 = some (19, 39, 86, 2, 14, []) ∧ kg_lk kg_cd91 19 = some (21, 4, 5, 0, 0, []) ∧ kg_lk kg_cd91 21 = some (22, 2, 2, 0, 0, []) ∧ kg_lk kg_cd91 22 = some (24, 0, 15, 0, 0, []) ∧ kg_lk kg_cd91 24 = some (25, 11, 0, 0, 0, []) ∧ kg_lk kg_cd91 25 = some (84, 19, 0, 269, 59, [(0, 84), (1, 84), (2, 105), (3, 105), (4, 105), (5, 117), (6, 129), (7, 129), (8, 139), (9, 164), (10, 242)]) ∧ kg_lk kg_cd91 84 = some (85, 3, 0, 0, 0, []) ∧ kg_lk kg_cd91 85 = some (86, 2, 3, 0, 0, []) ∧ kg_lk kg_cd91 86 = some (88, 2, 4, 0, 0, []) ∧ kg_lk kg_cd91 88 = some (89, 2, 2, 0, 0, []) ∧ kg_lk kg_cd91 89 = some (91, 0, 8, 0, 0, []) ∧ kg_lk kg_cd91 91 = some (92, 50, 0, 0, 0, []) ∧ kg_lk kg_cd91 92 = some (94, 0, 100, 0, 0, []) ∧ kg_lk kg_cd91 94 = some (97, 40, 89, 2, 18, []) ∧ kg_lk kg_cd91 97 = some (100, 39, 62, 4, 24, []) ∧ kg_lk kg_cd91 100 = some (102, 4, 6, 0, 0, []) ∧ kg_lk kg_cd91 102 = some (105, 18, 0, 285, 0, []) ∧ kg_lk kg_cd91 105 = some (106, 3, 0, 0, 0, []) ∧ kg_lk kg_cd91 106 = some (107, 2, 3, 0, 0, []) ∧ kg_lk kg_cd91 107 = some (109, 2, 4, 0, 0, []) ∧ kg_lk kg_cd91 109 = some (112, 39, 65, 3, 27, []) ∧ kg_lk kg_cd91 112 = some (114, 4, 6, 0, 0, []) ∧ kg_lk kg_cd91 114 = some (117, 18, 0, 285, 0, []) ∧ kg_lk kg_cd91 117 = some (118, 3, 0, 0, 0, []) ∧ kg_lk kg_cd91 118 = some (119, 2, 3, 0, 0, []) ∧ kg_lk kg_cd91 119 = some (121, 2, 4, 0, 0, []) ∧ kg_lk kg_cd91 121 = some (124, 39, 66, 3, 30, []) ∧ kg_lk kg_cd91 124 = some (126, 4, 6, 0, 0, []) ∧ kg_lk kg_cd91 126 = some (129, 18, 0, 285, 0, []) ∧ kg_lk kg_cd91 129 = some (130, 3, 0, 0, 0, []) ∧ kg_lk kg_cd91 130 = some (131, 2, 3, 0, 0, []) ∧ kg_lk kg_cd91 131 = some (134, 39, 69, 2, 33, []) ∧ kg_lk kg_cd91 134 = some (136, 4, 6, 0, 0, []) ∧ kg_lk kg_cd91 136 = some (139, 18, 0, 285, 0, []) ∧ kg_lk kg_cd91 139 = some (140, 3, 0, 0, 0, []) ∧ kg_lk kg_cd91 140 = some (141, 2, 3, 0, 0, []) ∧ kg_lk kg_cd91 141 = some (142, 2, 2, 0, 0, []) ∧ kg_lk kg_cd91 142 = some (144, 0, 6, 0, 0, []) ∧ kg_lk kg_cd91 144 = some (145, 50, 0, 0, 0, []) ∧ kg_lk kg_cd91 145 = some (146, 0, 1, 0, 0, []) ∧ kg_lk kg_cd91 146 = some (147, 11, 0, 0, 0, []) ∧ kg_lk kg_cd91 147 = some (148, 0, 1, 0, 0, []) ∧ kg_lk kg_cd91 148 = some (151, 17, 1, 155, 0, []) ∧ kg_lk kg_cd91 151 = some (152, 0, 1, 0, 0, []) ∧ kg_lk kg_cd91 152 = some (155, 18, 0, 156, 0, []) ∧ kg_lk kg_cd91 155 = some (156, 0, 0, 0, 0, []) ∧ kg_lk kg_cd91 156 = some (159, 39, 60, 3, 36, []) ∧ kg_lk kg_cd91 159 = some (161, 4, 6, 0, 0, []) ∧ kg_lk kg_cd91 161 = some (164, 18, 0, 285, 0, []) ∧ kg_lk kg_cd91 164 = some (165, 2, 2, 0, 0, []) ∧ kg_lk kg_cd91 165 = some (167, 0, 6, 0, 0, []) ∧ kg_lk kg_cd91 167 = some (168, 50, 0, 0, 0, []) ∧ kg_lk kg_cd91 168 = some (169, 0, 1, 0, 0, []) ∧ kg_lk kg_cd91 169 = some (170, 11, 0, 0, 0, []) ∧ kg_lk kg_cd91 170 = some (173, 16, 1, 193, 0, []) ∧ kg_lk kg_cd91 173 = some (174, 3, 0, 0, 0, []) ∧ kg_lk kg_cd91 174 = some (175, 2, 2, 0, 0, []) ∧ kg_lk kg_cd91 175 = some (176, 0, 4, 0, 0, []) ∧ kg_lk kg_cd91 176 = some (177, 50, 0, 0, 0, []) ∧ kg_lk kg_cd91 177 = some (178, 0, 1, 0, 0, []) ∧ kg_lk kg_cd91 178 = some (179, 11, 0, 0, 0, []) ∧ kg_lk kg_cd91 179 = some (180, 0, 1, 0, 0, []) ∧ kg_lk kg_cd91 180 = some (181, 2, 2, 0, 0, []) ∧ kg_lk kg_cd91 181 = some (183, 0, 7, 0, 0, []) ∧ kg_lk kg_cd91 183 = some (184, 50, 0, 0, 0, []) ∧ kg_lk kg_cd91 184 = some (185, 0, 3, 0, 0, []) ∧ kg_lk kg_cd91 185 = some (186, 11, 0, 0, 0, []) ∧ kg_lk kg_cd91 186 = some (187, 7, 0, 0, 0, []) ∧ kg_lk kg_cd91 187 = some (190, 39, 57, 3, 40, []) ∧ kg_lk kg_cd91 190 = some (193, 18, 0, 237, 0, []) ∧ kg_lk kg_cd91 193 = some (194, 2, 2, 0, 0, []) ∧ kg_lk kg_cd91 194 = some (195, 0, 4, 0, 0, []) ∧ kg_lk kg_cd91 195 = some (196, 50, 0, 0, 0, []) ∧ kg_lk kg_cd91 196 = some (197, 0, 1, 0, 0, []) ∧ kg_lk kg_cd91 197 = some (198, 11, 0, 0, 0, []) ∧ kg_lk kg_cd91 198 = some (201, 16, 1, 220, 0, []) ∧ kg_lk kg_cd91 201 = some (202, 3, 0, 0, 0, []) ∧ kg_lk kg_cd91 202 = some (203, 0, 2, 0, 0, []) ∧ kg_lk kg_cd91 203 = some (204, 0, 1, 0, 0, []) ∧ kg_lk kg_cd91 204 = some (205, 2, 2, 0, 0, []) ∧ kg_lk kg_cd91 205 = some (207, 0, 7, 0, 0, []) ∧ kg_lk kg_cd91 207 = some (208, 50, 0, 0, 0, []) ∧ kg_lk kg_cd91 208 = some (210, 0, 20, 0, 0, []) ∧ kg_lk kg_cd91 210 = some (213, 40, 89, 2, 18, []) ∧ kg_lk kg_cd91 213 = some (214, 7, 0, 0, 0, []) ∧ kg_lk kg_cd91 214 = some (217, 39, 57, 3, 40, []) ∧ kg_lk kg_cd91 217 = some (220, 18, 0, 237, 0, []) ∧ kg_lk kg_cd91 220 = some (221, 3, 0, 0, 0, []) ∧ kg_lk kg_cd91 221 = some (222, 0, 3, 0, 0, []) ∧ kg_lk kg_cd91 222 = some (223, 2, 2, 0, 0, []) ∧ kg_lk kg_cd91 223 = some (224, 0, 5, 0, 0, []) ∧ kg_lk kg_cd91 224 = some (225, 50, 0, 0, 0, []) ∧ kg_lk kg_cd91 225 = some (226, 0, 1, 0, 0, []) ∧ kg_lk kg_cd91 226 = some (227, 11, 0, 0, 0, []) ∧ kg_lk kg_cd91 227 = some (228, 7, 0, 0, 0, []) ∧ kg_lk kg_cd91 228 = some (229, 2, 2, 0, 0, []) ∧ kg_lk kg_cd91 229 = some (231, 0, 7, 0, 0, []) ∧ kg_lk kg_cd91 231 = some (232, 50, 0, 0, 0, []) ∧ kg_lk kg_cd91 232 = some (233, 0, 1, 0, 0, []) ∧ kg_lk kg_cd91 233 = some (234, 11, 0, 0, 0, []) ∧ kg_lk kg_cd91 234 = some (237, 39, 57, 3, 40, []) ∧ kg_lk kg_cd91 237 = some (239, 4, 6, 0, 0, []) ∧ kg_lk kg_cd91 239 = some (242, 18, 0, 285, 0, []) ∧ kg_lk kg_cd91 242 = some (243, 3, 0, 0, 0, []) ∧ kg_lk kg_cd91 243 = some (244, 2, 3, 0, 0, []) ∧ kg_lk kg_cd91 244 = some (246, 2, 4, 0, 0, []) ∧ kg_lk kg_cd91 246 = some (247, 3, 0, 0, 0, []) ∧ kg_lk kg_cd91 247 = some (248, 0, 0, 0, 0, []) ∧ kg_lk kg_cd91 248 = some (251, 39, 86, 2, 14, []) ∧ kg_lk kg_cd91 251 = some (252, 2, 2, 0, 0, []) ∧ kg_lk kg_cd91 252 = some (254, 0, 8, 0, 0, []) ∧ kg_lk kg_cd91 254 = some (255, 50, 0, 0, 0, []) ∧ kg_lk kg_cd91 255 = some (257, 0, 12, 0, 0, []) ∧ kg_lk kg_cd91 257 = some (260, 40, 89, 2, 18, []) ∧ kg_lk kg_cd91 260 = some (261, 7, 0, 0, 0, []) ∧ kg_lk kg_cd91 261 = some (264, 39, 70, 4, 43, []) ∧ kg_lk kg_cd91 264 = some (266, 4, 6, 0, 0, []) ∧ kg_lk kg_cd91 266 = some (269, 18, 0, 285, 0, []) ∧ kg_lk kg_cd91 269 = some (270, 3, 0, 0, 0, []) ∧ kg_lk kg_cd91 270 = some (271, 0, 1, 0, 0, []) ∧ kg_lk kg_cd91 271 = some (272, 2, 2, 0, 0, []) ∧ kg_lk kg_cd91 272 = some (273, 0, 4, 0, 0, []) ∧ kg_lk kg_cd91 273 = some (274, 50, 0, 0, 0, []) ∧ kg_lk kg_cd91 274 = some (276, 0, 6, 0, 0, []) ∧ kg_lk kg_cd91 276 = some (279, 40, 89, 2, 18, []) ∧ kg_lk kg_cd91 279 = some (280, 7, 0, 0, 0, []) ∧ kg_lk kg_cd91 280 = some (283, 39, 72, 2, 46, []) ∧ kg_lk kg_cd91 283 = some (285, 4, 6, 0, 0, []) ∧ kg_lk kg_cd91 285 = some (286, 3, 1, 0, 0, []) ∧ kg_lk kg_cd91 286 = some (288, 2, 4, 0, 0, []) ∧ kg_lk kg_cd91 288 = some (289, 3, 0, 0, 0, []) ∧ kg_lk kg_cd91 289 = some (290, 0, 1, 0, 0, []) ∧ kg_lk kg_cd91 290 = some (293, 39, 86, 2, 14, []) ∧ kg_lk kg_cd91 293 = some (295, 2, 5, 0, 0, []) ∧ kg_lk kg_cd91 295 = some (298, 17, 5, 306, 0, []) ∧ kg_lk kg_cd91 298 = some (299, 3, 0, 0, 0, []) ∧ kg_lk kg_cd91 299 = some (300, 0, 1, 0, 0, []) ∧ kg_lk kg_cd91 300 = some (303, 39, 86, 2, 14, []) ∧ kg_lk kg_cd91 303 = some (306, 18, 0, 310, 0, []) ∧ kg_lk kg_cd91 306 = some (307, 3, 1, 0, 0, []) ∧ kg_lk kg_cd91 307 = some (309, 2, 4, 0, 0, []) ∧ kg_lk kg_cd91 309 = some (310, 27, 0, 0, 0, []) ∧ kg_lk kg_cd91 310 = some (311, 31, 0, 0, 0, []) ∧ kg_lk kg_cd91 311 = some (313, 2, 6, 0, 0, []) ∧ kg_lk kg_cd91 313 = some (314, 48, 0, 0, 0, []) := by refine ⟨?_, ?_, ?_, ?_, ?_, ?_, ?_, ?_, ?_, ?_, ?_, ?_, ?_, ?_, ?_, ?_, ?_, ?_, ?_, ?_, ?_, ?_, ?_, ?_, ?_, ?_, ?_, ?_, ?_, ?_, ?_, ?_, ?_, ?_, ?_, ?_, ?_, ?_, ?_, ?_, ?_, ?_, ?_, ?_, ?_, ?_, ?_, ?_, ?_, ?_, ?_, ?_, ?_, ?_, ?_, ?_, ?_, ?_, ?_, ?_, ?_, ?_, ?_, ?_, ?_, ?_, ?_, ?_, ?_, ?_, ?_, ?_, ?_, ?_, ?_, ?_, ?_, ?_, ?_, ?_, ?_, ?_, ?_, ?_, ?_, ?_, ?_, ?_, ?_, ?_, ?_, ?_, ?_, ?_, ?_, ?_, ?_, ?_, ?_, ?_, ?_, ?_, ?_, ?_, ?_, ?_, ?_, ?_, ?_, ?_, ?_, ?_, ?_, ?_, ?_, ?_, ?_, ?_, ?_, ?_, ?_, ?_, ?_, ?_, ?_, ?_, ?_, ?_, ?_, ?_, ?_, ?_, ?_, ?_, ?_, ?_, ?_, ?_, ?_, ?_, ?_, ?_, ?_, ?_, ?_, ?_, ?_, ?_, ?_, ?_, ?_, ?_, ?_, ?_, ?_, ?_, ?_, ?_, ?_⟩ <;> rfl
def kg_cd92 : kg_Cd := [(0, (1, 0, 0, 0, 0, [])), (1, (2, 4, 2, 0, 0, [])), (2, (3, 0, 0, 0, 0, [])), (3, (4, 4, 3, 0, 0, [])), (4, (5, 2, 3, 0, 0, [])), (5, (6, 0, 4, 0, 0, [])), (6, (9, 17, 3, 277, 0, [])), (9, (10, 0, 0, 0, 0, [])), (10, (12, 4, 4, 0, 0, [])), (12, (13, 0, 0, 0, 0, [])), (13, (15, 4, 5, 0, 0, [])), (15, (16, 0, 0, 0, 0, [])), (16, (18, 4, 6, 0, 0, [])), (18, (20, 2, 6, 0, 0, [])), (20, (21, 0, 4, 0, 0, [])), (21, (24, 17, 3, 217, 0, [])), (24, (25, 3, 0, 0, 0, [])), (25, (26, 2, 3, 0, 0, [])), (26, (28, 2, 6, 0, 0, [])), (28, (29, 0, 0, 0, 0, [])), (29, (32, 39, 78, 4, 8, [])), (32, (34, 4, 7, 0, 0, [])), (34, (36, 2, 7, 0, 0, [])), (36, (37, 0, 1, 0, 0, [])), (37, (40, 17, 1, 55, 0, [])), (40, (41, 3, 0, 0, 0, [])), (41, (43, 2, 6, 0, 0, [])), (43, (44, 0, 0, 0, 0, [])), (44, (47, 39, 79, 3, 49, [])), (47, (48, 0, 2, 0, 0, [])), (48, (51, 17, 1, 55, 0, [])), (51, (52, 0, 1, 0, 0, [])), (52, (55, 18, 0, 56, 0, [])), (55, (56, 0, 0, 0, 0, [])), (56, (58, 4, 8, 0, 0, [])), (58, (60, 2, 4, 0, 0, [])), (60, (62, 2, 7, 0, 0, [])), (62, (63, 0, 1, 0, 0, [])), (63, (66, 17, 1, 70, 0, [])), (66, (67, 0, 1, 0, 0, [])), (67, (70, 18, 0, 71, 0, [])), (70, (71, 0, 0, 0, 0, [])), (71, (72, 7, 0, 0, 0, [])), (72, (74, 4, 4, 0, 0, [])), (74, (75, 2, 2, 0, 0, [])), (75, (77, 2, 7, 0, 0, [])), (77, (78, 0, 2, 0, 0, [])), (78, (81, 17, 1, 85, 0, [])), (81, (82, 0, 1, 0, 0, [])), (82, (85, 18, 0, 86, 0, [])), (85, (86, 0, 0, 0, 0, [])), (86, (87, 7, 0, 0, 0, [])), (87, (88, 4, 2, 0, 0, [])), (88, (90, 2, 5, 0, 0, [])), (90, (92, 2, 8, 0, 0, [])), (92, (95, 16, 0, 99, 0, [])), (95, (96, 0, 1, 0, 0, [])), (96, (99, 18, 0, 100, 0, [])), (99, (100, 0, 0, 0, 0, [])), (100, (101, 7, 0, 0, 0, [])), (101, (103, 4, 5, 0, 0, [])), (103, (104, 3, 0, 0, 0, [])), (104, (105, 2, 3, 0, 0, [])), (105, (107, 2, 6, 0, 0, [])), (107, (110, 40, 90, 3, 52, [])), (110, (111, 3, 1, 0, 0, [])), (111, (113, 2, 6, 0, 0, [])), (113, (114, 27, 0, 0, 0, [])), (114, (117, 17, 4, 165, 0, [])), (117, (118, 3, 0, 0, 0, [])), (118, (119, 2, 3, 0, 0, [])), (119, (121, 2, 6, 0, 0, [])), (121, (124, 40, 90, 3, 52, [])), (124, (125, 3, 1, 0, 0, [])), (125, (127, 2, 6, 0, 0, [])), (127, (128, 27, 0, 0, 0, [])), (128, (131, 17, 1, 143, 0, [])), (131, (133, 2, 7, 0, 0, [])), (133, (134, 3, 0, 0, 0, [])), (134, (136, 2, 6, 0, 0, [])), (136, (137, 0, 0, 0, 0, [])), (137, (140, 39, 79, 3, 49, [])), (140, (143, 17, 1, 165, 0, [])), (143, (144, 3, 0, 0, 0, [])), (144, (145, 2, 3, 0, 0, [])), (145, (147, 2, 6, 0, 0, [])), (147, (148, 0, 5, 0, 0, [])), (148, (151, 39, 78, 4, 8, [])), (151, (152, 0, 1, 0, 0, [])), (152, (155, 17, 1, 159, 0, [])), (155, (156, 0, 1, 0, 0, [])), (156, (159, 18, 0, 160, 0, [])), (159, (160, 0, 0, 0, 0, [])), (160, (162, 2, 8, 0, 0, [])), (162, (165, 17, 0, 167, 0, [])), (165, (166, 0, 0, 0, 0, [])), (166, (167, 48, 0, 0, 0, [])), (167, (169, 2, 7, 0, 0, [])), (169, (172, 16, 5, 211, 0, [])), (172, (173, 3, 0, 0, 0, [])), (173, (174, 2, 3, 0, 0, [])), (174, (176, 2, 6, 0, 0, [])), (176, (178, 0, 6, 0, 0, [])), (178, (181, 39, 78, 4, 8, [])), (181, (182, 3, 0, 0, 0, [])), (182, (183, 2, 3, 0, 0, [])), (183, (185, 2, 6, 0, 0, [])), (185, (186, 0, 3, 0, 0, [])), (186, (189, 39, 78, 4, 8, [])), (189, (192, 17, 2, 209, 0, [])), (192, (193, 3, 0, 0, 0, [])), (193, (194, 2, 3, 0, 0, [])), (194, (196, 2, 6, 0, 0, [])), (196, (198, 0, 6, 0, 0, [])), (198, (201, 39, 78, 4, 8, [])), (201, (202, 3, 0, 0, 0, [])), (202, (203, 0, 0, 0, 0, [])), (203, (206, 39, 86, 2, 14, [])), (206, (209, 17, 5, 211, 0, [])), (209, (210, 0, 0, 0, 0, [])), (210, (211, 48, 0, 0, 0, [])), (211, (214, 6, 6, 1, 0, [])), (214, (217, 18, 0, 18, 0, [])), (217, (218, 3, 0, 0, 0, [])), (218, (219, 2, 3, 0, 0, [])), (219, (220, 0, 1, 0, 0, [])), (220, (223, 39, 80, 3, 56, [])), (223, (225, 2, 4, 0, 0, [])), (225, (228, 17, 1, 269, 0, [])), (228, (229, 3, 0, 0, 0, [])), (229, (230, 2, 3, 0, 0, [])), (230, (231, 0, 5, 0, 0, [])), (231, (234, 39, 80, 3, 56, [])), (234, (236, 2, 5, 0, 0, [])), (236, (239, 17, 1, 269, 0, [])), (239, (240, 3, 0, 0, 0, [])), (240, (241, 2, 3, 0, 0, [])), (241, (242, 0, 4, 0, 0, [])), (242, (245, 39, 80, 3, 56, [])), (245, (246, 3, 0, 0, 0, [])), (246, (247, 2, 3, 0, 0, [])), (247, (248, 0, 3, 0, 0, [])), (248, (251, 39, 80, 3, 56, [])), (251, (254, 17, 4, 269, 0, [])), (254, (255, 3, 0, 0, 0, [])), (255, (256, 2, 3, 0, 0, [])), (256, (257, 0, 3, 0, 0, [])), (257, (260, 39, 80, 3, 56, [])), (260, (261, 3, 0, 0, 0, [])), (261, (262, 2, 3, 0, 0, [])), (262, (263, 0, 2, 0, 0, [])), (263, (266, 39, 80, 3, 56, [])), (266, (269, 17, 5, 271, 0, [])), (269, (270, 0, 0, 0, 0, [])), (270, (271, 48, 0, 0, 0, [])), (271, (274, 6, 3, 1, 0, [])), (274, (277, 18, 0, 4, 0, [])), (277, (278, 3, 0, 0, 0, [])), (278, (280, 0, 6, 0, 0, [])), (280, (283, 39, 86, 2, 14, [])), (283, (284, 2, 2, 0, 0, [])), (284, (287, 17, 1, 291, 0, [])), (287, (288, 0, 1, 0, 0, [])), (288, (291, 18, 0, 292, 0, [])), (291, (292, 0, 0, 0, 0, [])), (292, (293, 48, 0, 0, 0, []))]
set_option maxRecDepth 100000 in
theorem kg_ok92 : kg_okc 6 false 9 cL_areKnownSo kg_cd92 = true := by decide +kernel
set_option maxRecDepth 100000 in
theorem kg_lk92 : kg_lk kg_cd92 0 = some (1, 0, 0, 0, 0, []) ∧ kg_lk kg_cd92 1 = some (2, 4, 2, 0, 0, []) ∧ kg_lk kg_cd92 2 = some (3, 0, 0, 0, 0, []) ∧ kg_lk kg_cd92 3 = some (4, 4, 3, 0, 0, []) ∧ kg_lk kg_cd92 4 = some (5, 2, 3, 0, 0, []) ∧ kg_lk kg_cd92 5 = some (6, 0, 4, 0, 0, []) ∧ kg_lk kg_cd92 6 = some (9, 17, 3, 277, 0, []) ∧ kg_lk kg_cd92 9 = some (10, 0, 0, 0, 0, []) ∧ kg_lk kg_cd92 10 = some (12, 4, 4, 0, 0, []) ∧ kg_lk kg_cd92 12 = some (13, 0, 0, 0, 0, []) ∧ kg_lk kg_cd92 13 = some (15, 4, 5, 0, 0, []) ∧ kg_lk kg_cd92 15 = some (16, 0, 0, 0, 0, []) ∧ kg_lk kg_cd92 16 = some (18, 4, 6, 0, 0, []) ∧ kg_lk kg_cd92 18 = some (20, 2, 6, 0, 0, []) ∧ kg_lk kg_cd92 20 = some (21, 0, 4, 0, 0, []) ∧ kg_lk kg_cd92 21 = some (24, 17, 3, 217, 0, []) ∧ kg_lk kg_cd92 24 = some (25, 3, 0, 0, 0, []) ∧ kg_lk kg_cd92 25 = some (26, 2, 3, 0, 0, []) ∧ kg_lk kg_cd92 26 = some (28, 2, 6, 0, 0, []) ∧ kg_lk kg_cd92 28 = some (29, 0, 0, 0, 0, []) ∧ kg_lk kg_cd92 29 = some (32, 39, 78, 4, 8, []) ∧ kg_lk kg_cd92 32 = some (34, 4, 7, 0, 0, []) ∧ kg_lk kg_cd92 34 = some (36, 2, 7, 0, 0, []) ∧ kg_lk kg_cd92 36 = some (37, 0, 1, 0, 0, []) ∧ kg_lk kg_cd92 37 = some (40, 17, 1, 55, 0, []) ∧ kg_lk kg_cd92 40 = some (41, 3, 0, 0, 0, []) ∧ kg_lk kg_cd92 41 = some (43, 2, 6, 0, 0, []) ∧ kg_lk kg_cd92 43 = some (44, 0, 0, 0, 0, []) ∧ kg_lk kg_cd92 44 = some (47, 39, 79, 3, 49, []) ∧ kg_lk kg_cd92 47 = some (48, 0, 2, 0, 0, []) ∧ kg_lk kg_cd92 48 = some (51, 17, 1, 55, 0, []) ∧ kg_lk kg_cd92 51 = some (52, 0, 1, 0, 0, []) ∧ kg_lk kg_cd92 52 = some (55, 18, 0, 56, 0, []) ∧ kg_lk kg_cd92 55 = some (56, 0, 0, 0, 0, []) ∧ kg_lk kg_cd92 56 = some (58, 4, 8, 0, 0, []) ∧ kg_lk kg_cd92 58 = some (60, 2, 4, 0, 0, []) ∧ kg_lk kg_cd92 60 = some (62, 2, 7, 0, 0, []) ∧ kg_lk kg_cd92 62 = some (63, 0, 1, 0, 0, []) ∧ kg_lk kg_cd92 63 = some (66, 17, 1, 70, 0, []) ∧ kg_lk kg_cd92 66 = some (67, 0, 1, 0, 0, []) ∧ kg_lk kg_cd92 67 = some (70, 18, 0, 71, 0, []) ∧ kg_lk kg_cd92 70 = some (71, 0, 0, 0, 0, []) ∧ kg_lk kg_cd92 71 = some (72, 7, 0, 0, 0, []) ∧ kg_lk kg_cd92 72 = some (74, 4, 4, 0, 0, []) ∧ kg_lk kg_cd92 74 = some (75, 2, 2, 0, 0, []) ∧ kg_lk kg_cd92 75 = some (77, 2, 7, 0, 0, []) ∧ kg_lk kg_cd92 77 = some (78, 0, 2, 0, 0, []) ∧ kg_lk kg_cd92 78 = some (81, 17, 1, 85, 0, []) ∧ kg_lk kg_cd92 81 = some (82, 0, 1, 0, 0, []) ∧ kg_lk kg_cd92 82 = some (85, 18, 0, 86, 0, []) ∧ kg_lk kg_cd92 85 = some (86, 0, 0, 0, 0, []) ∧ kg_lk kg_cd92 86 = some (87, 7, 0, 0, 0, []) ∧ kg_lk kg_cd92 87 = some (88, 4, 2, 0, 0, []) ∧ kg_lk kg_cd92 88 = some (90, 2, 5, 0, 0, []) ∧ kg_lk kg_cd92 90 = some (92, 2, 8, 0, 0, []) ∧ kg_lk kg_cd92 92 = some (95, 16, 0, 99, 0, []) ∧ kg_lk kg_cd92 95 = some (96, 0, 1, 0, 0, []) ∧ kg_lk kg_cd92 96 = some (99, 18, 0, 100, 0, []) ∧ kg_lk kg_cd92 99 = some (100, 0, 0, 0, 0, []) ∧ kg_lk kg_cd92 100 = some (101, 7, 0, 0, 0, []) ∧ kg_lk kg_cd92 101 = some (103, 4, 5, 0, 0, []) ∧ kg_lk kg_cd92 103 = some (104, 3, 0, 0, 0, []) ∧ kg_lk kg_cd92 104 = some (105, 2, 3, 0, 0, []) ∧ kg_lk kg_cd92 105 = some (107, 2, 6, 0, 0, []) ∧ kg_lk kg_cd92 107 = some (110, 40, 90, 3, 52, []) ∧ kg_lk kg_cd92 110 = some (111, 3, 1, 0, 0, []) ∧ kg_lk kg_cd92 111 = some (113, 2, 6, 0, 0, []) ∧ kg_lk kg_cd92 113 = some (114, 27, 0, 0, 0, []) ∧ kg_lk kg_cd92 114 = some (117, 17, 4, 165, 0, []) ∧ kg_lk kg_cd92 117 = some (118, 3, 0, 0, 0, []) ∧ kg_lk kg_cd92 118 = some (119, 2, 3, 0, 0, []) ∧ kg_lk kg_cd92 119 = some (121, 2, 6, 0, 0, []) ∧ kg_lk kg_cd92 121 = some (124, 40, 90, 3, 52, []) ∧ kg_lk kg_cd92 124 = some (125, 3, 1, 0, 0, []) ∧ kg_lk kg_cd92 125 = some (127, 2, 6, 0, 0, []) ∧ kg_lk kg_cd92 127 = some (128, 27, 0, 0, 0, []) ∧ kg_lk kg_cd92 128 = some (131, 17, 1, 143, 0, []) ∧ kg_lk kg_cd92 131 = some (133, 2, 7, 0, 0, []) ∧ kg_lk kg_cd92 133 = some (134, 3, 0, 0, 0, []) ∧ kg_lk kg_cd92 134 = some (136, 2, 6, 0, 0, []) ∧ kg_lk kg_cd92 136 = some (137, 0, 0, 0, 0, []) ∧ kg_lk kg_cd92 137 = some (140, 39, 79, 3, 49, []) ∧ kg_lk kg_cd92 140 = some (143, 17, 1, 165, 0, []) ∧ kg_lk kg_cd92 143 = some (144, 3, 0, 0, 0, []) ∧ kg_lk kg_cd92 144 = some (145, 2, 3, 0, 0, []) ∧ kg_lk kg_cd92 145 = some (147, 2, 6, 0, 0, []) ∧ kg_lk kg_cd92 147 = some (148, 0, 5, 0, 0, []) ∧ kg_lk kg_cd92 148 = some (151, 39, 78, 4, 8, []) ∧ kg_lk kg_cd92 151 = some (152, 0, 1, 0, 0, []) ∧ kg_lk kg_cd92 152 = some (155, 17, 1, 159, 0, []) ∧ kg_lk kg_cd92 155 = some (156, 0, 1, 0, 0, []) ∧ kg_lk kg_cd92 156 = some (159, 18, 0, 160, 0, []) ∧ kg_lk kg_cd92 159 = some (160, 0, 0, 0, 0, []) ∧ kg_lk kg_cd92 160 = some (162, 2, 8, 0, 0, []) ∧ kg_lk kg_cd92 162 = some (165, 17, 0, 167, 0, []) ∧ kg_lk kg_cd92 165 = some (166, 0, 0, 0, 0, []) ∧ kg_lk kg_cd92 166 = some (167, 48, 0, 0, 0, []) ∧ kg_lk kg_cd92 167 = some (169, 2, 7, 0, 0, []) ∧ kg_lk kg_cd92 169 = some (172, 16, 5, 211, 0, []) ∧ kg_lk kg_cd92 172 = some (173, 3, 0, 0, 0, []) ∧ kg_lk kg_cd92 173 = some (174, 2, 3, 0, 0, []) ∧ kg_lk kg_cd92 174 = some (176, 2, 6, 0, 0, []) ∧ kg_lk kg_cd92 176 = some (178, 0, 6, 0, 0, []) ∧ kg_lk kg_cd92 178 = some (181, 39, 78, 4, 8, []) ∧ kg_lk kg_cd92 181 = some (182, 3, 0, 0, 0, []) ∧ kg_lk kg_cd92 182 = some (183, 2, 3, 0, 0, []) ∧ kg_lk kg_cd92 183 = some (185, 2, 6, 0, 0, []) ∧ kg_lk kg_cd92 185 = some (186, 0, 3, 0, 0, []) ∧ kg_lk kg_cd92 186 = some (189, 39, 78, 4, 8, []) ∧ kg_lk kg_cd92 189 = some (192, 17, 2, 209, 0, []) ∧ kg_lk kg_cd92 192 = some (193, 3, 0, 0, 0, []) ∧ kg_lk kg_cd92 193 = some (194, 2, 3, 0, 0, []) ∧ kg_lk kg_cd92 194 = some (196, 2, 6, 0, 0, []) ∧ kg_lk kg_cd92 196 = some (198, 0, 6, 0, 0, []) ∧ kg_lk kg_cd92 198 = some (201, 39, 78, 4, 8, []) ∧ kg_lk kg_cd92 201 = some (202, 3, 0, 0, 0, []) ∧ kg_lk kg_cd92 202 = some (203, 0, 0, 0, 0, []) ∧ kg_lk kg_cd92 203 = some (206, 39, 86, 2, 14, []) ∧ kg_lk kg_cd92 206 = some (209, 17, 5, 211, 0, []) ∧ kg_lk kg_cd92 209 = some (210, 0, 0, 0, 0, []) ∧ kg_lk kg_cd92 210 = some (211, 48, 0, 0, 0, []) ∧ kg_lk kg_cd92 211 = some (214, 6, 6, 1, 0, []) ∧ kg_lk kg_cd92 214 = some (217, 18, 0, 18, 0, []) ∧ kg_lk kg_cd92 217 = some (218, 3, 0, 0, 0, []) ∧ kg_lk kg_cd92 218 = some (219, 2, 3, 0, 0, []) ∧ kg_lk kg_cd92 219 = some (220, 0, 1, 0, 0, []) ∧ kg_lk kg_cd92 220 = some (223, 39, 80, 3, 56, []) ∧ kg_lk kg_cd92 223 = some (225, 2, 4, 0, 0, []) ∧ kg_lk kg_cd92 225 = some (228, 17, 1, 269, 0, []) ∧ kg_lk kg_cd92 228 = some (229, 3, 0, 0, 0, []) ∧ kg_lk kg_cd92 229 = some (230, 2, 3, 0, 0, []) ∧ kg_lk kg_cd92 230 = some (231, 0, 5, 0, 0, []) ∧ kg_lk kg_cd92 231 = some (234, 39, 80, 3, 56, []) ∧ kg_lk kg_cd92 234 = some (236, 2, 5, 0, 0, []) ∧ kg_lk kg_cd92 236 = some (239, 17, 1, 269, 0, []) ∧ kg_lk kg_cd92 239 = some (240, 3, 0, 0, 0, []) ∧ kg_lk kg_cd92 240 = some (241, 2, 3, 0, 0, []) ∧ kg_lk kg_cd92 241 = some (242, 0, 4, 0, 0, []) ∧ kg_lk kg_cd92 242 = some (245, 39, 80, 3, 56, []) ∧ kg_lk kg_cd92 245 = some (246, 3, 0, 0, 0, []) ∧ kg_lk kg_cd92 246 = some (247, 2, 3, 0, 0, []) ∧ kg_lk kg_cd92 247 = some (248, 0, 3, 0, 0, []) ∧ kg_lk kg_cd92 248 = some (251, 39, 80, 3, 56, []) ∧ kg_lk kg_cd92 251 = some (254, 17, 4, 269, 0, []) ∧ kg_lk kg_cd92 254 = some (255, 3, 0, 0, 0, []) ∧ kg_lk kg_cd92 255 = some (256, 2, 3, 0, 0, []) ∧ kg_lk kg_cd92 256 = some (257, 0, 3, 0, 0, []) ∧ kg_lk kg_cd92 257 = some (260, 39, 80, 3, 56, []) ∧ kg_lk kg_cd92 260 = some (261, 3, 0, 0, 0, []) ∧ kg_lk kg_cd92 261 = some (262, 2, 3, 0, 0, []) ∧ kg_lk kg_cd92 262 = some (263, 0, 2, 0, 0, []) ∧ kg_lk kg_cd92 263 = some (266, 39, 80, 3, 56, []) ∧ kg_lk kg_cd92 266 = some (269, 17, 5, 271, 0, []) ∧ kg_lk kg_cd92 269 = some (270, 0, 0, 0, 0, []) ∧ kg_lk kg_cd92 270 = some (271, 48, 0, 0, 0, []) ∧ kg_lk kg_cd92 271 = some (274, 6, 3, 1, 0, []) ∧ kg_lk kg_cd92 274 = some (277, 18, 0, 4, 0, []) ∧ kg_lk kg_cd92 277 = some (278, 3, 0, 0, 0, []) ∧ kg_lk kg_cd92 278 = some (280, 0, 6, 0, 0, []) ∧ kg_lk kg_cd92 280 = some (283, 39, 86, 2, 14, []) ∧ kg_lk kg_cd92 283 = some (284, 2, 2, 0, 0, []) ∧ kg_lk kg_cd92 284 = some (287, 17, 1, 291, 0, []) ∧ kg_lk kg_cd92 287 = some (288, 0, 1, 0, 0, []) ∧ kg_lk kg_cd92 288 = some (291, 18, 0, 292, 0, []) ∧ kg_lk kg_cd92 291 = some (292, 0, 0, 0, 0, []) ∧ kg_lk kg_cd92 292 = some (293, 48, 0, 0, 0, []) := by refine ⟨?_, ?_, ?_, ?_, ?_, ?_, ?_, ?_, ?_, ?_, ?_, ?_, ?_, ?_, ?_, ?_, ?_, ?_, ?_, ?_, ?_, ?_, ?_, ?_, ?_, ?_, ?_, ?_, ?_, ?_, ?_, ?_, ?_, ?_, ?_, ?_, ?_, ?_, ?_, ?_, ?_, ?_, ?_, ?_, ?_, ?_, ?_, ?_, ?_, ?_, ?_, ?_, ?_, ?_, ?_, ?_, ?_, ?_, ?_, ?_, ?_, ?_, ?_, ?_, ?_, ?_, ?_, ?_, ?_, ?_, ?_, ?_, ?_, ?_, ?_, ?_, ?_, ?_, ?_, ?_, ?_, ?_, ?_, ?_, ?_, ?_, ?_, ?_, ?_, ?_, ?_, ?_, ?_, ?_, ?_, ?_, ?_, ?_, ?_, ?_, ?_, ?_, ?_, ?_, ?_, ?_, ?_, ?_, ?_, ?_, ?_, ?_, ?_, ?_, ?_, ?_, ?_, ?_, ?_, ?_, ?_, ?_, ?_, ?_, ?_, ?_, ?_, ?_, ?_, ?_, ?_, ?_, ?_, ?_, ?_, ?_, ?_, ?_, ?_, ?_, ?_, ?_, ?_, ?_, ?_, ?_, ?_, ?_, ?_, ?_, ?_, ?_, ?_, ?_, ?_, ?_, ?_, ?_, ?_, ?_, ?_, ?_, ?_, ?_, ?_, ?_⟩ <;> rfl
def kg_cd93 : kg_Cd := [(0, (1, 3, 0, 0, 0, [])), (1, (2, 2, 1, 0, 0, [])), (2, (3, 2, 2, 0, 0, [])), (3, (4, 0, 1, 0, 0, [])), (4, (7, 39, 81, 4, 59, [])), (7, (8, 4, 3, 0, 0, [])), (8, (9, 0, 0, 0, 0, [])), (9, (11, 4, 4, 0, 0, [])), (11, (12, 0, 0, 0, 0, [])), (12, (14, 4, 5, 0, 0, [])), (14, (15, 0, 0, 0, 0, [])), (15, (17, 4, 6, 0, 0, [])), (17, (19, 2, 6, 0, 0, [])), (19, (21, 0, 8, 0, 0, [])), (21, (24, 17, 3, 84, 0, [])), (24, (25, 3, 0, 0, 0, [])), (25, (26, 2, 1, 0, 0, [])), (26, (28, 2, 6, 0, 0, [])), (28, (31, 40, 90, 3, 52, [])), (31, (33, 4, 7, 0, 0, [])), (33, (34, 3, 0, 0, 0, [])), (34, (35, 2, 2, 0, 0, [])), (35, (37, 2, 6, 0, 0, [])), (37, (40, 40, 90, 3, 52, [])), (40, (42, 4, 8, 0, 0, [])), (42, (44, 2, 4, 0, 0, [])), (44, (46, 2, 7, 0, 0, [])), (46, (48, 2, 8, 0, 0, [])), (48, (51, 17, 5, 56, 0, [])), (51, (53, 2, 7, 0, 0, [])), (53, (56, 18, 0, 58, 0, [])), (56, (58, 2, 8, 0, 0, [])), (58, (59, 7, 0, 0, 0, [])), (59, (61, 4, 4, 0, 0, [])), (61, (63, 2, 5, 0, 0, [])), (63, (65, 2, 7, 0, 0, [])), (65, (67, 2, 8, 0, 0, [])), (67, (70, 17, 1, 74, 0, [])), (70, (71, 0, 0, 0, 0, [])), (71, (74, 18, 0, 75, 0, [])), (74, (75, 0, 1, 0, 0, [])), (75, (76, 7, 0, 0, 0, [])), (76, (78, 4, 5, 0, 0, [])), (78, (81, 6, 6, 1, 0, [])), (81, (84, 18, 0, 17, 0, [])), (84, (85, 3, 0, 0, 0, [])), (85, (86, 2, 1, 0, 0, [])), (86, (87, 0, 0, 0, 0, [])), (87, (90, 39, 80, 3, 56, [])), (90, (93, 16, 0, 102, 0, [])), (93, (94, 3, 0, 0, 0, [])), (94, (95, 2, 2, 0, 0, [])), (95, (96, 0, 0, 0, 0, [])), (96, (99, 39, 80, 3, 56, [])), (99, (102, 16, 1, 125, 0, [])), (102, (103, 3, 0, 0, 0, [])), (103, (104, 2, 1, 0, 0, [])), (104, (105, 2, 2, 0, 0, [])), (105, (108, 39, 67, 3, 62, [])), (108, (110, 1, 4, 0, 0, [])), (110, (113, 17, 1, 123, 0, [])), (113, (115, 2, 5, 0, 0, [])), (115, (116, 2, 3, 0, 0, [])), (116, (119, 17, 1, 123, 0, [])), (119, (120, 0, 1, 0, 0, [])), (120, (123, 18, 0, 124, 0, [])), (123, (124, 0, 0, 0, 0, [])), (124, (125, 48, 0, 0, 0, [])), (125, (126, 3, 0, 0, 0, [])), (126, (127, 2, 1, 0, 0, [])), (127, (128, 2, 2, 0, 0, [])), (128, (131, 39, 67, 3, 62, [])), (131, (132, 2, 3, 0, 0, [])), (132, (135, 17, 1, 170, 0, [])), (135, (137, 2, 5, 0, 0, [])), (137, (138, 2, 3, 0, 0, [])), (138, (141, 17, 1, 170, 0, [])), (141, (142, 3, 0, 0, 0, [])), (142, (143, 2, 1, 0, 0, [])), (143, (144, 2, 2, 0, 0, [])), (144, (145, 0, 1, 0, 0, [])), (145, (148, 39, 81, 4, 59, [])), (148, (151, 16, 1, 170, 0, [])), (151, (152, 3, 0, 0, 0, [])), (152, (153, 2, 2, 0, 0, [])), (153, (154, 2, 1, 0, 0, [])), (154, (155, 0, 0, 0, 0, [])), (155, (158, 39, 81, 4, 59, [])), (158, (159, 3, 0, 0, 0, [])), (159, (160, 0, 0, 0, 0, [])), (160, (163, 39, 86, 2, 14, [])), (163, (166, 17, 1, 170, 0, [])), (166, (167, 0, 1, 0, 0, [])), (167, (170, 18, 0, 171, 0, [])), (170, (171, 0, 0, 0, 0, [])), (171, (173, 4, 6, 0, 0, [])), (173, (174, 0, 0, 0, 0, [])), (174, (176, 4, 7, 0, 0, [])), (176, (178, 2, 7, 0, 0, [])), (178, (180, 0, 8, 0, 0, [])), (180, (183, 17, 3, 251, 0, [])), (183, (185, 2, 4, 0, 0, [])), (185, (186, 3, 0, 0, 0, [])), (186, (187, 2, 1, 0, 0, [])), (187, (189, 2, 7, 0, 0, [])), (189, (192, 40, 90, 3, 52, [])), (192, (193, 8, 0, 0, 0, [])), (193, (195, 4, 4, 0, 0, [])), (195, (197, 2, 6, 0, 0, [])), (197, (200, 16, 0, 242, 0, [])), (200, (201, 3, 0, 0, 0, [])), (201, (202, 2, 1, 0, 0, [])), (202, (204, 2, 7, 0, 0, [])), (204, (205, 0, 0, 0, 0, [])), (205, (208, 39, 78, 4, 8, [])), (208, (209, 3, 0, 0, 0, [])), (209, (210, 2, 2, 0, 0, [])), (210, (212, 2, 7, 0, 0, [])), (212, (213, 0, 0, 0, 0, [])), (213, (216, 39, 78, 4, 8, [])), (216, (219, 17, 1, 242, 0, [])), (219, (220, 3, 0, 0, 0, [])), (220, (221, 2, 1, 0, 0, [])), (221, (223, 2, 7, 0, 0, [])), (223, (224, 0, 1, 0, 0, [])), (224, (227, 39, 78, 4, 8, [])), (227, (228, 3, 0, 0, 0, [])), (228, (229, 2, 2, 0, 0, [])), (229, (231, 2, 7, 0, 0, [])), (231, (232, 0, 1, 0, 0, [])), (232, (235, 39, 78, 4, 8, [])), (235, (238, 17, 1, 242, 0, [])), (238, (239, 0, 1, 0, 0, [])), (239, (242, 18, 0, 243, 0, [])), (242, (243, 0, 0, 0, 0, [])), (243, (245, 4, 6, 0, 0, [])), (245, (248, 6, 7, 1, 0, [])), (248, (251, 18, 0, 176, 0, [])), (251, (253, 2, 6, 0, 0, [])), (253, (256, 16, 0, 265, 0, [])), (256, (258, 2, 4, 0, 0, [])), (258, (261, 16, 1, 265, 0, [])), (261, (262, 0, 1, 0, 0, [])), (262, (265, 18, 0, 266, 0, [])), (265, (266, 0, 0, 0, 0, [])), (266, (267, 48, 0, 0, 0, []))]
set_option maxRecDepth 100000 in
theorem kg_ok93 : kg_okc 6 false 9 cL_isRepairSo kg_cd93 = true := by decide +kernel
set_option maxRecDepth 100000 in
theorem kg_lk93 : kg_lk kg_cd93 0 = some (1, 3, 0, 0, 0, []) ∧ kg_lk kg_cd93 1 = some (2, 2, 1, 0, 0, []) ∧ kg_lk kg_cd93 2 = some (3, 2, 2, 0, 0, []) ∧ kg_lk kg_cd93 3 = some (4, 0, 1, 0, 0, []) ∧ kg_lk kg_cd93 4 = some (7, 39, 81, 4, 59, []) ∧ kg_lk kg_cd93 7 = some (8, 4, 3, 0, 0, []) ∧ kg_lk kg_cd93 8 = some (9, 0, 0, 0, 0, []) ∧ kg_lk kg_cd93 9 = some (11, 4, 4, 0, 0, []) ∧ kg_lk kg_cd93 11 = some (12, 0, 0, 0, 0, []) ∧ kg_lk kg_cd93 12 = some (14, 4, 5, 0, 0, []) ∧ kg_lk kg_cd93 14 = some (15, 0, 0, 0, 0, []) ∧ kg_lk kg_cd93 15 = some (17, 4, 6, 0, 0, []) ∧ kg_lk kg_cd93 17 = some (19, 2, 6, 0, 0, []) ∧ kg_lk kg_cd93 19 = some (21, 0, 8, 0, 0, []) ∧ kg_lk kg_cd93 21 = some (24, 17, 3, 84, 0, []) ∧ kg_lk kg_cd93 24 = some (25, 3, 0, 0, 0, []) ∧ kg_lk kg_cd93 25 = some (26, 2, 1, 0, 0, []) ∧ kg_lk kg_cd93 26 = some (28, 2, 6, 0, 0, []) ∧ kg_lk kg_cd93 28 = some (31, 40, 90, 3, 52, []) ∧ kg_lk kg_cd93 31 = some (33, 4, 7, 0, 0, []) ∧ kg_lk kg_cd93 33 = some (34, 3, 0, 0, 0, []) ∧ kg_lk kg_cd93 34 = some (35, 2, 2, 0, 0, []) ∧ kg_lk kg_cd93 35 = some (37, 2, 6, 0, 0, []) ∧ kg_lk kg_cd93 37 = some (40, 40, 90, 3, 52, []) ∧ kg_lk kg_cd93 40 = some (42, 4, 8, 0, 0, []) ∧ kg_lk kg_cd93 42 = some (44, 2, 4, 0, 0, []) ∧ kg_lk kg_cd93 44 = some (46, 2, 7, 0, 0, []) ∧ kg_lk kg_cd93 46 = some (48, 2, 8, 0, 0, []) ∧ kg_lk kg_cd93 48 = some (51, 17, 5, 56, 0, []) ∧ kg_lk kg_cd93 51 = some (53, 2, 7, 0, 0, []) ∧ kg_lk kg_cd93 53 = some (56, 18, 0, 58, 0, []) ∧ kg_lk kg_cd93 56 = some (58, 2, 8, 0, 0, []) ∧ kg_lk kg_cd93 58 = some (59, 7, 0, 0, 0, []) ∧ kg_lk kg_cd93 59 = some (61, 4, 4, 0, 0, []) ∧ kg_lk kg_cd93 61 = some (63, 2, 5, 0, 0, []) ∧ kg_lk kg_cd93 63 = some (65, 2, 7, 0, 0, []) ∧ kg_lk kg_cd93 65 = some (67, 2, 8, 0, 0, []) ∧ kg_lk kg_cd93 67 = some (70, 17, 1, 74, 0, []) ∧ kg_lk kg_cd93 70 = some (71, 0, 0, 0, 0, []) ∧ kg_lk kg_cd93 71 = some (74, 18, 0, 75, 0, []) ∧ kg_lk kg_cd93 74 = some (75, 0, 1, 0, 0, []) ∧ kg_lk kg_cd93 75 = some (76, 7, 0, 0, 0, []) ∧ kg_lk kg_cd93 76 = some (78, 4, 5, 0, 0, []) ∧ kg_lk kg_cd93 78 = some (81, 6, 6, 1, 0, []) ∧ kg_lk kg_cd93 81 = some (84, 18, 0, 17, 0, []) ∧ kg_lk kg_cd93 84 = some (85, 3, 0, 0, 0, []) ∧ kg_lk kg_cd93 85 = some (86, 2, 1, 0, 0, []) ∧ kg_lk kg_cd93 86 = some (87, 0, 0, 0, 0, []) ∧ kg_lk kg_cd93 87 = some (90, 39, 80, 3, 56, []) ∧ kg_lk kg_cd93 90 = some (93, 16, 0, 102, 0, []) ∧ kg_lk kg_cd93 93 = some (94, 3, 0, 0, 0, []) ∧ kg_lk kg_cd93 94 = some (95, 2, 2, 0, 0, []) ∧ kg_lk kg_cd93 95 = some (96, 0, 0, 0, 0, []) ∧ kg_lk kg_cd93 96 = some (99, 39, 80, 3, 56, []) ∧ kg_lk kg_cd93 99 = some (102, 16, 1, 125, 0, []) ∧ kg_lk kg_cd93 102 = some (103, 3, 0, 0, 0, []) ∧ kg_lk kg_cd93 103 = some (104, 2, 1, 0, 0, []) ∧ kg_lk kg_cd93 104 = some (105, 2, 2, 0, 0, []) ∧ kg_lk kg_cd93 105 = some (108, 39, 67, 3, 62, []) ∧ kg_lk kg_cd93 108 = some (110, 1, 4, 0, 0, []) ∧ kg_lk kg_cd93 110 = some (113, 17, 1, 123, 0, []) ∧ kg_lk kg_cd93 113 = some (115, 2, 5, 0, 0, []) ∧ kg_lk kg_cd93 115 = some (116, 2, 3, 0, 0, []) ∧ kg_lk kg_cd93 116 = some (119, 17, 1, 123, 0, []) ∧ kg_lk kg_cd93 119 = some (120, 0, 1, 0, 0, []) ∧ kg_lk kg_cd93 120 = some (123, 18, 0, 124, 0, []) ∧ kg_lk kg_cd93 123 = some (124, 0, 0, 0, 0, []) ∧ kg_lk kg_cd93 124 = some (125, 48, 0, 0, 0, []) ∧ kg_lk kg_cd93 125 = some (126, 3, 0, 0, 0, []) ∧ kg_lk kg_cd93 126 = some (127, 2, 1, 0, 0, []) ∧ kg_lk kg_cd93 127 = some (128, 2, 2, 0, 0, []) ∧ kg_lk kg_cd93 128 = some (131, 39, 67, 3, 62, []) ∧ kg_lk kg_cd93 131 = some (132, 2, 3, 0, 0, []) ∧ kg_lk kg_cd93 132 = some (135, 17, 1, 170, 0, []) ∧ kg_lk kg_cd93 135 = some (137, 2, 5, 0, 0, []) ∧ kg_lk kg_cd93 137 = some (138, 2, 3, 0, 0, []) ∧ kg_lk kg_cd93 138 = some (141, 17, 1, 170, 0, []) ∧ kg_lk kg_cd93 141 = some (142, 3, 0, 0, 0, []) ∧ kg_lk kg_cd93 142 = some (143, 2, 1, 0, 0, []) ∧ kg_lk kg_cd93 143 = some (144, 2, 2, 0, 0, []) ∧ kg_lk kg_cd93 144 = some (145, 0, 1, 0, 0, []) ∧ kg_lk kg_cd93 145 = some (148, 39, 81, 4, 59, []) ∧ kg_lk kg_cd93 148 = some (151, 16, 1, 170, 0, []) ∧ kg_lk kg_cd93 151 = some (152, 3, 0, 0, 0, []) ∧ kg_lk kg_cd93 152 = some (153, 2, 2, 0, 0, []) ∧ kg_lk kg_cd93 153 = some (154, 2, 1, 0, 0, []) ∧ kg_lk kg_cd93 154 = some (155, 0, 0, 0, 0, []) ∧ kg_lk kg_cd93 155 = some (158, 39, 81, 4, 59, []) ∧ kg_lk kg_cd93 158 = some (159, 3, 0, 0, 0, []) ∧ kg_lk kg_cd93 159 = some (160, 0, 0, 0, 0, []) ∧ kg_lk kg_cd93 160 = some (163, 39, 86, 2, 14, []) ∧ kg_lk kg_cd93 163 = some (166, 17, 1, 170, 0, []) ∧ kg_lk kg_cd93 166 = some (167, 0, 1, 0, 0, []) ∧ kg_lk kg_cd93 167 = some (170, 18, 0, 171, 0, []) ∧ kg_lk kg_cd93 170 = some (171, 0, 0, 0, 0, []) ∧ kg_lk kg_cd93 171 = some (173, 4, 6, 0, 0, []) ∧ kg_lk kg_cd93 173 = some (174, 0, 0, 0, 0, []) ∧ kg_lk kg_cd93 174 = some (176, 4, 7, 0, 0, []) ∧ kg_lk kg_cd93 176 = some (178, 2, 7, 0, 0, []) ∧ kg_lk kg_cd93 178 = some (180, 0, 8, 0, 0, []) ∧ kg_lk kg_cd93 180 = some (183, 17, 3, 251, 0, []) ∧ kg_lk kg_cd93 183 = some (185, 2, 4, 0, 0, []) ∧ kg_lk kg_cd93 185 = some (186, 3, 0, 0, 0, []) ∧ kg_lk kg_cd93 186 = some (187, 2, 1, 0, 0, []) ∧ kg_lk kg_cd93 187 = some (189, 2, 7, 0, 0, []) ∧ kg_lk kg_cd93 189 = some (192, 40, 90, 3, 52, []) ∧ kg_lk kg_cd93 192 = some (193, 8, 0, 0, 0, []) ∧ kg_lk kg_cd93 193 = some (195, 4, 4, 0, 0, []) ∧ kg_lk kg_cd93 195 = some (197, 2, 6, 0, 0, []) ∧ kg_lk kg_cd93 197 = some (200, 16, 0, 242, 0, []) ∧ kg_lk kg_cd93 200 = some (201, 3, 0, 0, 0, []) ∧ kg_lk kg_cd93 201 = some (202, 2, 1, 0, 0, []) ∧ kg_lk kg_cd93 202 = some (204, 2, 7, 0, 0, []) ∧ kg_lk kg_cd93 204 = some (205, 0, 0, 0, 0, []) ∧ kg_lk kg_cd93 205 = some (208, 39, 78, 4, 8, []) ∧ kg_lk kg_cd93 208 = some (209, 3, 0, 0, 0, []) ∧ kg_lk kg_cd93 209 = some (210, 2, 2, 0, 0, []) ∧ kg_lk kg_cd93 210 = some (212, 2, 7, 0, 0, []) ∧ kg_lk kg_cd93 212 = some (213, 0, 0, 0, 0, []) ∧ kg_lk kg_cd93 213 = some (216, 39, 78, 4, 8, []) ∧ kg_lk kg_cd93 216 = some (219, 17, 1, 242, 0, []) ∧ kg_lk kg_cd93 219 = some (220, 3, 0, 0, 0, []) ∧ kg_lk kg_cd93 220 = some (221, 2, 1, 0, 0, []) ∧ kg_lk kg_cd93 221 = some (223, 2, 7, 0, 0, []) ∧ kg_lk kg_cd93 223 = some (224, 0, 1, 0, 0, []) ∧ kg_lk kg_cd93 224 = some (227, 39, 78, 4, 8, []) ∧ kg_lk kg_cd93 227 = some (228, 3, 0, 0, 0, []) ∧ kg_lk kg_cd93 228 = some (229, 2, 2, 0, 0, []) ∧ kg_lk kg_cd93 229 = some (231, 2, 7, 0, 0, []) ∧ kg_lk kg_cd93 231 = some (232, 0, 1, 0, 0, []) ∧ kg_lk kg_cd93 232 = some (235, 39, 78, 4, 8, []) ∧ kg_lk kg_cd93 235 = some (238, 17, 1, 242, 0, []) ∧ kg_lk kg_cd93 238 = some (239, 0, 1, 0, 0, []) ∧ kg_lk kg_cd93 239 = some (242, 18, 0, 243, 0, []) ∧ kg_lk kg_cd93 242 = some (243, 0, 0, 0, 0, []) ∧ kg_lk kg_cd93 243 = some (245, 4, 6, 0, 0, []) ∧ kg_lk kg_cd93 245 = some (248, 6, 7, 1, 0, []) ∧ kg_lk kg_cd93 248 = some (251, 18, 0, 176, 0, []) ∧ kg_lk kg_cd93 251 = some (253, 2, 6, 0, 0, []) ∧ kg_lk kg_cd93 253 = some (256, 16, 0, 265, 0, []) ∧ kg_lk kg_cd93 256 = some (258, 2, 4, 0, 0, []) ∧ kg_lk kg_cd93 258 = some (261, 16, 1, 265, 0, []) ∧ kg_lk kg_cd93 261 = some (262, 0, 1, 0, 0, []) ∧ kg_lk kg_cd93 262 = some (265, 18, 0, 266, 0, []) ∧ kg_lk kg_cd93 265 = some (266, 0, 0, 0, 0, []) ∧ kg_lk kg_cd93 266 = some (267, 48, 0, 0, 0, []) := by refine ⟨?_, ?_, ?_, ?_, ?_, ?_, ?_, ?_, ?_, ?_, ?_, ?_, ?_, ?_, ?_, ?_, ?_, ?_, ?_, ?_, ?_, ?_, ?_, ?_, ?_, ?_, ?_, ?_, ?_, ?_, ?_, ?_, ?_, ?_, ?_, ?_, ?_, ?_, ?_, ?_, ?_, ?_, ?_, ?_, ?_, ?_, ?_, ?_, ?_, ?_, ?_, ?_, ?_, ?_, ?_, ?_, ?_, ?_, ?_, ?_, ?_, ?_, ?_, ?_, ?_, ?_, ?_, ?_, ?_, ?_, ?_, ?_, ?_, ?_, ?_, ?_, ?_, ?_, ?_, ?_, ?_, ?_, ?_, ?_, ?_, ?_, ?_, ?_, ?_, ?_, ?_, ?_, ?_, ?_, ?_, ?_, ?_, ?_, ?_, ?_, ?_, ?_, ?_, ?_, ?_, ?_, ?_, ?_, ?_, ?_, ?_, ?_, ?_, ?_, ?_, ?_, ?_, ?_, ?_, ?_, ?_, ?_, ?_, ?_, ?_, ?_, ?_, ?_, ?_, ?_, ?_, ?_, ?_, ?_, ?_, ?_, ?_, ?_, ?_, ?_, ?_, ?_, ?_, ?_, ?_, ?_⟩ <;> rfl
def kg_cd94 : kg_Cd := [(0, (1, 3, 0, 0, 0, [])), (1, (4, 39, 83, 1, 65, [])), (4, (5, 4, 1, 0, 0, [])), (5, (6, 0, 1, 0, 0, [])), (6, (7, 4, 2, 0, 0, [])), (7, (8, 0, 0, 0, 0, [])), (8, (9, 4, 3, 0, 0, [])), (9, (10, 2, 3, 0, 0, [])), (10, (11, 0, 4, 0, 0, [])), (11, (14, 17, 3, 148, 0, [])), (14, (15, 0, 0, 0, 0, [])), (15, (17, 4, 4, 0, 0, [])), (17, (19, 2, 4, 0, 0, [])), (19, (21, 0, 8, 0, 0, [])), (21, (24, 17, 3, 142, 0, [])), (24, (25, 3, 0, 0, 0, [])), (25, (26, 2, 3, 0, 0, [])), (26, (28, 2, 4, 0, 0, [])), (28, (29, 0, 0, 0, 0, [])), (29, (32, 39, 78, 4, 8, [])), (32, (33, 0, 2, 0, 0, [])), (33, (36, 17, 1, 40, 0, [])), (36, (37, 0, 1, 0, 0, [])), (37, (40, 18, 0, 41, 0, [])), (40, (41, 0, 0, 0, 0, [])), (41, (43, 4, 5, 0, 0, [])), (43, (44, 0, 0, 0, 0, [])), (44, (46, 4, 6, 0, 0, [])), (46, (47, 0, 0, 0, 0, [])), (47, (49, 4, 7, 0, 0, [])), (49, (51, 2, 7, 0, 0, [])), (51, (52, 0, 4, 0, 0, [])), (52, (55, 17, 3, 91, 0, [])), (55, (57, 2, 6, 0, 0, [])), (57, (60, 16, 1, 78, 0, [])), (60, (61, 3, 0, 0, 0, [])), (61, (63, 2, 7, 0, 0, [])), (63, (65, 2, 4, 0, 0, [])), (65, (68, 40, 90, 3, 52, [])), (68, (69, 3, 0, 0, 0, [])), (69, (70, 2, 3, 0, 0, [])), (70, (72, 2, 4, 0, 0, [])), (72, (75, 40, 90, 3, 52, [])), (75, (78, 17, 3, 82, 0, [])), (78, (79, 0, 1, 0, 0, [])), (79, (82, 18, 0, 83, 0, [])), (82, (83, 0, 0, 0, 0, [])), (83, (85, 4, 6, 0, 0, [])), (85, (88, 6, 7, 1, 0, [])), (88, (91, 18, 0, 49, 0, [])), (91, (93, 2, 5, 0, 0, [])), (93, (96, 16, 0, 120, 0, [])), (96, (98, 2, 6, 0, 0, [])), (98, (101, 16, 0, 120, 0, [])), (101, (102, 3, 0, 0, 0, [])), (102, (103, 0, 0, 0, 0, [])), (103, (106, 39, 86, 2, 14, [])), (106, (107, 3, 0, 0, 0, [])), (107, (108, 2, 3, 0, 0, [])), (108, (110, 2, 4, 0, 0, [])), (110, (111, 0, 3, 0, 0, [])), (111, (114, 39, 78, 4, 8, [])), (114, (115, 8, 0, 0, 0, [])), (115, (116, 0, 1, 0, 0, [])), (116, (117, 7, 0, 0, 0, [])), (117, (120, 18, 0, 121, 0, [])), (120, (121, 0, 1, 0, 0, [])), (121, (123, 4, 7, 0, 0, [])), (123, (125, 2, 7, 0, 0, [])), (125, (126, 2, 2, 0, 0, [])), (126, (129, 17, 5, 134, 0, [])), (129, (131, 2, 7, 0, 0, [])), (131, (134, 18, 0, 135, 0, [])), (134, (135, 2, 2, 0, 0, [])), (135, (136, 4, 2, 0, 0, [])), (136, (139, 6, 4, 1, 0, [])), (139, (142, 18, 0, 17, 0, [])), (142, (145, 6, 3, 1, 0, [])), (145, (148, 18, 0, 9, 0, [])), (148, (149, 2, 1, 0, 0, [])), (149, (150, 2, 2, 0, 0, [])), (150, (153, 17, 1, 171, 0, [])), (153, (154, 3, 0, 0, 0, [])), (154, (156, 0, 10, 0, 0, [])), (156, (159, 39, 86, 2, 14, [])), (159, (162, 16, 4, 167, 0, [])), (162, (163, 2, 1, 0, 0, [])), (163, (164, 0, 1, 0, 0, [])), (164, (167, 17, 1, 171, 0, [])), (167, (168, 0, 1, 0, 0, [])), (168, (171, 18, 0, 172, 0, [])), (171, (172, 0, 0, 0, 0, [])), (172, (173, 48, 0, 0, 0, []))]
set_option maxRecDepth 100000 in
theorem kg_ok94 : kg_okc 6 false 8 cL_isGraceSo kg_cd94 = true := by decide +kernel
set_option maxRecDepth 100000 in
theorem kg_lk94 : kg_lk kg_cd94 0 = some (1, 3, 0, 0, 0, []) ∧ kg_lk kg_cd94 1 = some (4, 39, 83, 1, 65, []) ∧ kg_lk kg_cd94 4 = some (5, 4, 1, 0, 0, []) ∧ kg_lk kg_cd94 5 = some (6, 0, 1, 0, 0, []) ∧ kg_lk kg_cd94 6 = some (7, 4, 2, 0, 0, []) ∧ kg_lk kg_cd94 7 = some (8, 0, 0, 0, 0, []) ∧ kg_lk kg_cd94 8 = some (9, 4, 3, 0, 0, []) ∧ kg_lk kg_cd94 9 = some (10, 2, 3, 0, 0, []) ∧ kg_lk kg_cd94 10 = some (11, 0, 4, 0, 0, []) ∧ kg_lk kg_cd94 11 = some (14, 17, 3, 148, 0, []) ∧ kg_lk kg_cd94 14 = some (15, 0, 0, 0, 0, []) ∧ kg_lk kg_cd94 15 = some (17, 4, 4, 0, 0, []) ∧ kg_lk kg_cd94 17 = some (19, 2, 4, 0, 0, []) ∧ kg_lk kg_cd94 19 = some (21, 0, 8, 0, 0, []) ∧ kg_lk kg_cd94 21 = some (24, 17, 3, 142, 0, []) ∧ kg_lk kg_cd94 24 = some (25, 3, 0, 0, 0, []) ∧ kg_lk kg_cd94 25 = some (26, 2, 3, 0, 0, []) ∧ kg_lk kg_cd94 26 = some (28, 2, 4, 0, 0, []) ∧ kg_lk kg_cd94 28 = some (29, 0, 0, 0, 0, []) ∧ kg_lk kg_cd94 29 = some (32, 39, 78, 4, 8, []) ∧ kg_lk kg_cd94 32 = some (33, 0, 2, 0, 0, []) ∧ kg_lk kg_cd94 33 = some (36, 17, 1, 40, 0, []) ∧ kg_lk kg_cd94 36 = some (37, 0, 1, 0, 0, []) ∧ kg_lk kg_cd94 37 = some (40, 18, 0, 41, 0, []) ∧ kg_lk kg_cd94 40 = some (41, 0, 0, 0, 0, []) ∧ kg_lk kg_cd94 41 = some (43, 4, 5, 0, 0, []) ∧ kg_lk kg_cd94 43 = some (44, 0, 0, 0, 0, []) ∧ kg_lk kg_cd94 44 = some (46, 4, 6, 0, 0, []) ∧ kg_lk kg_cd94 46 = some (47, 0, 0, 0, 0, []) ∧ kg_lk kg_cd94 47 = some (49, 4, 7, 0, 0, []) ∧ kg_lk kg_cd94 49 = some (51, 2, 7, 0, 0, []) ∧ kg_lk kg_cd94 51 = some (52, 0, 4, 0, 0, []) ∧ kg_lk kg_cd94 52 = some (55, 17, 3, 91, 0, []) ∧ kg_lk kg_cd94 55 = some (57, 2, 6, 0, 0, []) ∧ kg_lk kg_cd94 57 = some (60, 16, 1, 78, 0, []) ∧ kg_lk kg_cd94 60 = some (61, 3, 0, 0, 0, []) ∧ kg_lk kg_cd94 61 = some (63, 2, 7, 0, 0, []) ∧ kg_lk kg_cd94 63 = some (65, 2, 4, 0, 0, []) ∧ kg_lk kg_cd94 65 = some (68, 40, 90, 3, 52, []) ∧ kg_lk kg_cd94 68 = some (69, 3, 0, 0, 0, []) ∧ kg_lk kg_cd94 69 = some (70, 2, 3, 0, 0, []) ∧ kg_lk kg_cd94 70 = some (72, 2, 4, 0, 0, []) ∧ kg_lk kg_cd94 72 = some (75, 40, 90, 3, 52, []) ∧ kg_lk kg_cd94 75 = some (78, 17, 3, 82, 0, []) ∧ kg_lk kg_cd94 78 = some (79, 0, 1, 0, 0, []) ∧ kg_lk kg_cd94 79 = some (82, 18, 0, 83, 0, []) ∧ kg_lk kg_cd94 82 = some (83, 0, 0, 0, 0, []) ∧ kg_lk kg_cd94 83 = some (85, 4, 6, 0, 0, []) ∧ kg_lk kg_cd94 85 = some (88, 6, 7, 1, 0, []) ∧ kg_lk kg_cd94 88 = some (91, 18, 0, 49, 0, []) ∧ kg_lk kg_cd94 91 = some (93, 2, 5, 0, 0, []) ∧ kg_lk kg_cd94 93 = some (96, 16, 0, 120, 0, []) ∧ kg_lk kg_cd94 96 = some (98, 2, 6, 0, 0, []) ∧ kg_lk kg_cd94 98 = some (101, 16, 0, 120, 0, []) ∧ kg_lk kg_cd94 101 = some (102, 3, 0, 0, 0, []) ∧ kg_lk kg_cd94 102 = some (103, 0, 0, 0, 0, []) ∧ kg_lk kg_cd94 103 = some (106, 39, 86, 2, 14, []) ∧ kg_lk kg_cd94 106 = some (107, 3, 0, 0, 0, []) ∧ kg_lk kg_cd94 107 = some (108, 2, 3, 0, 0, []) ∧ kg_lk kg_cd94 108 = some (110, 2, 4, 0, 0, []) ∧ kg_lk kg_cd94 110 = some (111, 0, 3, 0, 0, []) ∧ kg_lk kg_cd94 111 = some (114, 39, 78, 4, 8, []) ∧ kg_lk kg_cd94 114 = some (115, 8, 0, 0, 0, []) ∧ kg_lk kg_cd94 115 = some (116, 0, 1, 0, 0, []) ∧ kg_lk kg_cd94 116 = some (117, 7, 0, 0, 0, []) ∧ kg_lk kg_cd94 117 = some (120, 18, 0, 121, 0, []) ∧ kg_lk kg_cd94 120 = some (121, 0, 1, 0, 0, []) ∧ kg_lk kg_cd94 121 = some (123, 4, 7, 0, 0, []) ∧ kg_lk kg_cd94 123 = some (125, 2, 7, 0, 0, []) ∧ kg_lk kg_cd94 125 = some (126, 2, 2, 0, 0, []) ∧ kg_lk kg_cd94 126 = some (129, 17, 5, 134, 0, []) ∧ kg_lk kg_cd94 129 = some (131, 2, 7, 0, 0, []) ∧ kg_lk kg_cd94 131 = some (134, 18, 0, 135, 0, []) ∧ kg_lk kg_cd94 134 = some (135, 2, 2, 0, 0, []) ∧ kg_lk kg_cd94 135 = some (136, 4, 2, 0, 0, []) ∧ kg_lk kg_cd94 136 = some (139, 6, 4, 1, 0, []) ∧ kg_lk kg_cd94 139 = some (142, 18, 0, 17, 0, []) ∧ kg_lk kg_cd94 142 = some (145, 6, 3, 1, 0, []) ∧ kg_lk kg_cd94 145 = some (148, 18, 0, 9, 0, []) ∧ kg_lk kg_cd94 148 = some (149, 2, 1, 0, 0, []) ∧ kg_lk kg_cd94 149 = some (150, 2, 2, 0, 0, []) ∧ kg_lk kg_cd94 150 = some (153, 17, 1, 171, 0, []) ∧ kg_lk kg_cd94 153 = some (154, 3, 0, 0, 0, []) ∧ kg_lk kg_cd94 154 = some (156, 0, 10, 0, 0, []) ∧ kg_lk kg_cd94 156 = some (159, 39, 86, 2, 14, []) ∧ kg_lk kg_cd94 159 = some (162, 16, 4, 167, 0, []) ∧ kg_lk kg_cd94 162 = some (163, 2, 1, 0, 0, []) ∧ kg_lk kg_cd94 163 = some (164, 0, 1, 0, 0, []) ∧ kg_lk kg_cd94 164 = some (167, 17, 1, 171, 0, []) ∧ kg_lk kg_cd94 167 = some (168, 0, 1, 0, 0, []) ∧ kg_lk kg_cd94 168 = some (171, 18, 0, 172, 0, []) ∧ kg_lk kg_cd94 171 = some (172, 0, 0, 0, 0, []) ∧ kg_lk kg_cd94 172 = some (173, 48, 0, 0, 0, []) := by refine ⟨?_, ?_, ?_, ?_, ?_, ?_, ?_, ?_, ?_, ?_, ?_, ?_, ?_, ?_, ?_, ?_, ?_, ?_, ?_, ?_, ?_, ?_, ?_, ?_, ?_, ?_, ?_, ?_, ?_, ?_, ?_, ?_, ?_, ?_, ?_, ?_, ?_, ?_, ?_, ?_, ?_, ?_, ?_, ?_, ?_, ?_, ?_, ?_, ?_, ?_, ?_, ?_, ?_, ?_, ?_, ?_, ?_, ?_, ?_, ?_, ?_, ?_, ?_, ?_, ?_, ?_, ?_, ?_, ?_, ?_, ?_, ?_, ?_, ?_, ?_, ?_, ?_, ?_, ?_, ?_, ?_, ?_, ?_, ?_, ?_, ?_, ?_, ?_, ?_, ?_, ?_, ?_, ?_⟩ <;> rfl
def kg_cd95 : kg_Cd := [(0, (1, 3, 0, 0, 0, [])), (1, (4, 39, 82, 1, 69, [])), (4, (5, 4, 1, 0, 0, [])), (5, (6, 3, 0, 0, 0, [])), (6, (7, 2, 1, 0, 0, [])), (7, (8, 0, 4, 0, 0, [])), (8, (9, 51, 0, 0, 0, [])), (9, (10, 2, 1, 0, 0, [])), (10, (11, 0, 4, 0, 0, [])), (11, (12, 10, 0, 0, 0, [])), (12, (13, 0, 0, 0, 0, [])), (13, (16, 39, 81, 4, 59, [])), (16, (17, 4, 2, 0, 0, [])), (17, (18, 0, 0, 0, 0, [])), (18, (19, 4, 3, 0, 0, [])), (19, (20, 2, 3, 0, 0, [])), (20, (21, 0, 4, 0, 0, [])), (21, (24, 17, 3, 81, 0, [])), (24, (25, 2, 3, 0, 0, [])), (25, (26, 0, 1, 0, 0, [])), (26, (27, 7, 0, 0, 0, [])), (27, (29, 4, 4, 0, 0, [])), (29, (31, 2, 4, 0, 0, [])), (31, (32, 0, 4, 0, 0, [])), (32, (35, 17, 3, 75, 0, [])), (35, (36, 3, 0, 0, 0, [])), (36, (37, 2, 3, 0, 0, [])), (37, (39, 2, 4, 0, 0, [])), (39, (40, 0, 0, 0, 0, [])), (40, (43, 39, 81, 4, 59, [])), (43, (45, 4, 5, 0, 0, [])), (45, (47, 2, 5, 0, 0, [])), (47, (48, 2, 2, 0, 0, [])), (48, (51, 17, 2, 67, 0, [])), (51, (53, 2, 5, 0, 0, [])), (53, (54, 2, 2, 0, 0, [])), (54, (57, 17, 1, 69, 0, [])), (57, (58, 0, 4, 0, 0, [])), (58, (59, 2, 3, 0, 0, [])), (59, (60, 9, 0, 0, 0, [])), (60, (62, 2, 4, 0, 0, [])), (62, (63, 7, 0, 0, 0, [])), (63, (64, 2, 1, 0, 0, [])), (64, (67, 17, 3, 69, 0, [])), (67, (68, 0, 0, 0, 0, [])), (68, (69, 48, 0, 0, 0, [])), (69, (72, 6, 4, 1, 0, [])), (72, (75, 18, 0, 29, 0, [])), (75, (78, 6, 3, 1, 0, [])), (78, (81, 18, 0, 19, 0, [])), (81, (82, 0, 1, 0, 0, [])), (82, (83, 48, 0, 0, 0, []))]
set_option maxRecDepth 100000 in
theorem kg_ok95 : kg_okc 6 false 6 cL_isSlowestSo kg_cd95 = true := by decide +kernel
set_option maxRecDepth 100000 in
theorem kg_lk95 : kg_lk kg_cd95 0 = some (1, 3, 0, 0, 0, []) ∧ kg_lk kg_cd95 1 = some (4, 39, 82, 1, 69, []) ∧ kg_lk kg_cd95 4 = some (5, 4, 1, 0, 0, []) ∧ kg_lk kg_cd95 5 = some (6, 3, 0, 0, 0, []) ∧ kg_lk kg_cd95 6 = some (7, 2, 1, 0, 0, []) ∧ kg_lk kg_cd95 7 = some (8, 0, 4, 0, 0, []) ∧ kg_lk kg_cd95 8 = some (9, 51, 0, 0, 0, []) ∧ kg_lk kg_cd95 9 = some (10, 2, 1, 0, 0, []) ∧ kg_lk kg_cd95 10 = some (11, 0, 4, 0, 0, []) ∧ kg_lk kg_cd95 11 = some (12, 10, 0, 0, 0, []) ∧ kg_lk kg_cd95 12 = some (13, 0, 0, 0, 0, []) ∧ kg_lk kg_cd95 13 = some (16, 39, 81, 4, 59, []) ∧ kg_lk kg_cd95 16 = some (17, 4, 2, 0, 0, []) ∧ kg_lk kg_cd95 17 = some (18, 0, 0, 0, 0, []) ∧ kg_lk kg_cd95 18 = some (19, 4, 3, 0, 0, []) ∧ kg_lk kg_cd95 19 = some (20, 2, 3, 0, 0, []) ∧ kg_lk kg_cd95 20 = some (21, 0, 4, 0, 0, []) ∧ kg_lk kg_cd95 21 = some (24, 17, 3, 81, 0, []) ∧ kg_lk kg_cd95 24 = some (25, 2, 3, 0, 0, []) ∧ kg_lk kg_cd95 25 = some (26, 0, 1, 0, 0, []) ∧ kg_lk kg_cd95 26 = some (27, 7, 0, 0, 0, []) ∧ kg_lk kg_cd95 27 = some (29, 4, 4, 0, 0, []) ∧ kg_lk kg_cd95 29 = some (31, 2, 4, 0, 0, []) ∧ kg_lk kg_cd95 31 = some (32, 0, 4, 0, 0, []) ∧ kg_lk kg_cd95 32 = some (35, 17, 3, 75, 0, []) ∧ kg_lk kg_cd95 35 = some (36, 3, 0, 0, 0, []) ∧ kg_lk kg_cd95 36 = some (37, 2, 3, 0, 0, []) ∧ kg_lk kg_cd95 37 = some (39, 2, 4, 0, 0, []) ∧ kg_lk kg_cd95 39 = some (40, 0, 0, 0, 0, []) ∧ kg_lk kg_cd95 40 = some (43, 39, 81, 4, 59, []) ∧ kg_lk kg_cd95 43 = some (45, 4, 5, 0, 0, []) ∧ kg_lk kg_cd95 45 = some (47, 2, 5, 0, 0, []) ∧ kg_lk kg_cd95 47 = some (48, 2, 2, 0, 0, []) ∧ kg_lk kg_cd95 48 = some (51, 17, 2, 67, 0, []) ∧ kg_lk kg_cd95 51 = some (53, 2, 5, 0, 0, []) ∧ kg_lk kg_cd95 53 = some (54, 2, 2, 0, 0, []) ∧ kg_lk kg_cd95 54 = some (57, 17, 1, 69, 0, []) ∧ kg_lk kg_cd95 57 = some (58, 0, 4, 0, 0, []) ∧ kg_lk kg_cd95 58 = some (59, 2, 3, 0, 0, []) ∧ kg_lk kg_cd95 59 = some (60, 9, 0, 0, 0, []) ∧ kg_lk kg_cd95 60 = some (62, 2, 4, 0, 0, []) ∧ kg_lk kg_cd95 62 = some (63, 7, 0, 0, 0, []) ∧ kg_lk kg_cd95 63 = some (64, 2, 1, 0, 0, []) ∧ kg_lk kg_cd95 64 = some (67, 17, 3, 69, 0, []) ∧ kg_lk kg_cd95 67 = some (68, 0, 0, 0, 0, []) ∧ kg_lk kg_cd95 68 = some (69, 48, 0, 0, 0, []) ∧ kg_lk kg_cd95 69 = some (72, 6, 4, 1, 0, []) ∧ kg_lk kg_cd95 72 = some (75, 18, 0, 29, 0, []) ∧ kg_lk kg_cd95 75 = some (78, 6, 3, 1, 0, []) ∧ kg_lk kg_cd95 78 = some (81, 18, 0, 19, 0, []) ∧ kg_lk kg_cd95 81 = some (82, 0, 1, 0, 0, []) ∧ kg_lk kg_cd95 82 = some (83, 48, 0, 0, 0, []) := by refine ⟨?_, ?_, ?_, ?_, ?_, ?_, ?_, ?_, ?_, ?_, ?_, ?_, ?_, ?_, ?_, ?_, ?_, ?_, ?_, ?_, ?_, ?_, ?_, ?_, ?_, ?_, ?_, ?_, ?_, ?_, ?_, ?_, ?_, ?_, ?_, ?_, ?_, ?_, ?_, ?_, ?_, ?_, ?_, ?_, ?_, ?_, ?_, ?_, ?_, ?_, ?_, ?_⟩ <;> rfl
end
section
/-! NORMAL STATES, and runs that stop at loops' heads (the lists are printed by wip/whole/gen11.py) -/
def kg_Rs (b k : Nat) : Nat := match k with
  | 2 => b + 1 | 3 => b + 2 | 4 => b + 3 | 5 => b + 8 | 6 => b + 9 | 7 => b + 13 | 8 => b + 19 | _ => 0
def kg_Rb (r b k : Nat) : Nat := match r with
  | 0 => kg_Rs b k
  | 3 => (match k with | 0 => b + 4 | 1 => b + 5 | 2 => b + 6 | 3 => b + 7 | _ => 0)
  | 9 => (match k with | 1 => b + 10 | 2 => b + 11 | 3 => b + 12 | _ => 0)
  | 13 => (match k with | 2 => b + 14 | 3 => b + 15 | 4 => b + 16 | 5 => b + 17 | 6 => b + 18 | _ => 0)
  | _ => 0
def kg_R (h : Nat → Nat) (p : Nat) : Nat → Nat :=
  if p = 0 then (fun k => match k with | 0 => 1 | 1 => 21 | 3 => 102 | 5 => 122 | _ => 0)
  else if p ≤ 20 then kg_Rb (p - 1) 1
  else if p = 21 then h
  else if p ≤ 121 then kg_Rb ((p - 22) % 20) (p - (p - 22) % 20)
  else if p = 122 then (fun k => match k with | 0 => 123 | _ => 0)
  else fun _ => 0
/-- all is made -/
def kg_w0 (h : Nat → Nat) : kg_W := (125, kg_R h)
def kg_rk (t : Nat) (v : Option Value) : Prop := match t, v with
  | 0, none => True
  | 1, some (.int _) => True
  | 2, some (.int x) => kg_01 x
  | _, _ => False
def kg_ret (t NX : Nat) (K : kg_Qt) : kg_Qt := fun v w M => kg_rk t v ∧ w.1 = NX ∧ K v w M
def kg_lks (cd : kg_Cd) (sp : List Nat) (pc : Nat) : Option (Nat × kg_Op) := if pc ∈ sp then none else kg_lk cd pc
def kg_exl (G : kg_G) (NX : Nat) (call : kg_Ct) (ret : kg_Qt) (V : Prop) (o : Option (Nat × kg_Op)) (k : kg_K) (ls : List (Option Value)) (st : List Value) (w : kg_W) (M : kg_M) : Prop := match o with
  | some (nx, t, a, b, c, l) => kg_exs G NX call ret t a b c l nx k ls st w M
  | none => V
def kg_gs (G : kg_G) (NX : Nat) (call : kg_Ct) (ret : kg_Qt) (cd : kg_Cd) (sp : List Nat) (V : kg_K) : Nat → kg_K
  | 0 => V
  | f + 1 => fun pc ls st w M => kg_exl G NX call ret (V pc ls st w M) (kg_lks cd sp pc) (kg_gs G NX call ret cd sp V f) ls st w M
def kg_go (G : kg_G) (NX : Nat) (call : kg_Ct) (ret : kg_Qt) (cd : kg_Cd) (sp : List Nat) (V : kg_K) (f : Nat) : kg_K := fun pc ls st w M => kg_exo G NX call ret (kg_lk cd pc) (kg_gs G NX call ret cd sp V f) ls st w M
/-- the point pc of method i -/
def kg_P (G : kg_G) (d i nL N0 NX : Nat) (K : kg_Qt) : kg_K := kg_V G (kg_X G d i N0 NX K) nL N0 NX
section
variable {G : kg_G} {X : kg_Xt} {o d i nL t N0 NX : Nat} {ini : Bool} {K ret : kg_Qt} {cc : ByteArray} {cd : kg_Cd} {sp : List Nat}
theorem kg_gs_sound (hB : kg_B G X (kg_cn o) cc nL d ini N0 NX) (hd1 : 1 ≤ d) (hL : G.2.2.2.2.2.1 < 2 ^ 31)
    (hri : ∀ pc ls x w M, decode cc pc = .ok (.ireturn, 1) → ret (some (.int x)) w M → kg_V G X nL N0 NX pc ls [.int x] w M)
    (hrv : ∀ pc ls w M, decode cc pc = .ok (.return_, 1) → ret none w M → kg_V G X nL N0 NX pc ls [] w M)
    (hok : kg_okc o ini nL cc cd = true) (f : Nat) : ∀ {pc : Nat} {ls : List (Option Value)} {st : List Value} {w : kg_W} {M : kg_M},
    kg_gs G NX (kg_call G d NX) ret cd sp (kg_V G X nL N0 NX) f pc ls st w M → kg_V G X nL N0 NX pc ls st w M := by
  induction f with
  | zero => exact fun h => h
  | succ f ih =>
    intro pc ls st w M h
    have h1 : kg_exl G NX (kg_call G d NX) ret (kg_V G X nL N0 NX pc ls st w M) (kg_lks cd sp pc) (kg_gs G NX (kg_call G d NX) ret cd sp (kg_V G X nL N0 NX) f) ls st w M := h
    cases hl : kg_lks cd sp pc with
    | none => rw [hl] at h1; exact h1
    | some q =>
      obtain ⟨nx, t, a, b, c, l⟩ := q
      rw [hl] at h1
      unfold kg_lks at hl
      split at hl
      · cases hl
      · exact kg_step hB hd1 hL hri hrv (fun _ _ _ _ _ h => ih h) (List.all_eq_true.mp hok _ (kg_lk_in hl)) h1
theorem kg_go_sound (hB : kg_B G X (kg_cn o) cc nL d ini N0 NX) (hd1 : 1 ≤ d) (hL : G.2.2.2.2.2.1 < 2 ^ 31)
    (hri : ∀ pc ls x w M, decode cc pc = .ok (.ireturn, 1) → ret (some (.int x)) w M → kg_V G X nL N0 NX pc ls [.int x] w M)
    (hrv : ∀ pc ls w M, decode cc pc = .ok (.return_, 1) → ret none w M → kg_V G X nL N0 NX pc ls [] w M)
    (hok : kg_okc o ini nL cc cd = true) {f pc : Nat} {ls : List (Option Value)} {st : List Value} {w : kg_W} {M : kg_M}
    (h : kg_go G NX (kg_call G d NX) ret cd sp (kg_V G X nL N0 NX) f pc ls st w M) : kg_V G X nL N0 NX pc ls st w M := by
  have h1 : kg_exo G NX (kg_call G d NX) ret (kg_lk cd pc) (kg_gs G NX (kg_call G d NX) ret cd sp (kg_V G X nL N0 NX) f) ls st w M := h
  cases hl : kg_lk cd pc with
  | none => rw [hl] at h1; exact False.elim h1
  | some q =>
    obtain ⟨nx, t, a, b, c, l⟩ := q
    rw [hl] at h1
    exact kg_step hB hd1 hL hri hrv (fun _ _ _ _ _ h => kg_gs_sound hB hd1 hL hri hrv hok f h) (List.all_eq_true.mp hok _ (kg_lk_in hl)) h1
theorem kg_vgo (hL : G.2.2.2.2.2.1 < 2 ^ 31) (hd1 : 1 ≤ d) (hok : kg_okc o ini nL cc cd = true) (h2 : (kg_mt i).1.cls = kg_cn o) (h3 : (kg_mt i).2.1 = cc) (h4 : (kg_mt i).2.2.1 = nL) (h5 : (kg_mt i).2.2.2 = if t = 0 then none else if t = 1 then some .int else some .boolean) (h6 : ini = true → (kg_mt i).1.name = "<init>") {f pc : Nat} {ls : List (Option Value)} {st : List Value} {w : kg_W} {M : kg_M}
    (h : kg_go G NX (kg_call G d NX) (kg_ret t NX K) cd sp (kg_P G d i nL N0 NX K) f pc ls st w M) : kg_P G d i nL N0 NX K pc ls st w M := by
  have hB : kg_B G (kg_X G d i N0 NX K) (kg_cn o) cc nL d ini N0 NX := kg_X_B h2 h3 h4 h6
  refine kg_go_sound hB hd1 hL ?_ ?_ hok h
  · intro pc ls x w M hd ⟨a1, a2, a3⟩
    refine kg_r_iret h3 hd a2 ?_ a3
    match t, h5, a1 with
    | 1, h5, a1 => exact Or.inl h5
    | 2, h5, a1 => exact Or.inr ⟨h5, a1⟩
  · intro pc ls w M hd ⟨a1, a2, a3⟩
    match t, h5, a1 with
    | 0, h5, a1 => exact kg_r_vret h3 hd a2 h5 a3
    | 1, h5, a1 => exact False.elim a1
    | 2, h5, a1 => exact False.elim a1
    | n + 3, h5, a1 => exact False.elim a1
theorem kg_P_call {args : List Value} {w : kg_W} {M : kg_M} (hi : i < 96) (hn : (kg_mt i).2.2.1 = nL) (hal : args.length ≤ nL) (hw : w.1 ≤ NX) (h : kg_P G d i nL w.1 NX K 0 (kg_pad nL args) [] w M) : kg_call G (d + 1) NX i args w M K := kg_intro hi hn hal hw h
end

set_option maxRecDepth 100000 in
theorem kg_S1 : (∀ (G : kg_G) (NX : Nat) (call : kg_Ct) (ret : kg_Qt) (cd : kg_Cd) (sp : List Nat) (V : kg_K) (f pc : Nat) (ls : List (Option Value)) (st : List Value) (w : kg_W) (M : kg_M), kg_gs G NX call ret cd sp V (f + 1) pc ls st w M = kg_exl G NX call ret (V pc ls st w M) (kg_lks cd sp pc) (kg_gs G NX call ret cd sp V f) ls st w M)
    ∧ (∀ (G : kg_G) (NX : Nat) (call : kg_Ct) (ret : kg_Qt) (cd : kg_Cd) (sp : List Nat) (V : kg_K) (f pc : Nat) (ls : List (Option Value)) (st : List Value) (w : kg_W) (M : kg_M), kg_go G NX call ret cd sp V f pc ls st w M = kg_exo G NX call ret (kg_lk cd pc) (kg_gs G NX call ret cd sp V f) ls st w M)
    ∧ (∀ (G : kg_G) (NX : Nat) (call : kg_Ct) (ret : kg_Qt) (V : Prop) (nx t a b c : Nat) (l : List (Nat × Nat)) (k : kg_K) (ls : List (Option Value)) (st : List Value) (w : kg_W) (M : kg_M), kg_exl G NX call ret V (some (nx, t, a, b, c, l)) k ls st w M = kg_exs G NX call ret t a b c l nx k ls st w M)
    ∧ (∀ (G : kg_G) (NX : Nat) (call : kg_Ct) (ret : kg_Qt) (V : Prop) (k : kg_K) (ls : List (Option Value)) (st : List Value) (w : kg_W) (M : kg_M), kg_exl G NX call ret V none k ls st w M = V)
    ∧ (∀ (G : kg_G) (NX : Nat) (call : kg_Ct) (ret : kg_Qt) (nx t a b c : Nat) (l : List (Nat × Nat)) (k : kg_K) (ls : List (Option Value)) (st : List Value) (w : kg_W) (M : kg_M), kg_exo G NX call ret (some (nx, t, a, b, c, l)) k ls st w M = kg_exs G NX call ret t a b c l nx k ls st w M)
    ∧ (∀ (l : List (Option Value)) (x : Option Value), kg_lg (x :: l) 0 = x)
    ∧ (∀ (l : List (Option Value)) (x : Option Value) (n : Nat), kg_lg (x :: l) (n + 1) = kg_lg l n)
    ∧ (∀ (l : List (Option Value)) (x : Option Value) (v : Value), kg_ls (x :: l) 0 v = some v :: l)
    ∧ (∀ (l : List (Option Value)) (x : Option Value) (n : Nat) (v : Value), kg_ls (x :: l) (n + 1) v = x :: kg_ls l n v)
    ∧ (∀ (x : Int32) (K : Int32 → Prop), kg_vi (some (.int x)) K = K x)
    ∧ (∀ (x : Nat) (K : Nat → Prop), kg_vr (some (.ref x)) K = K x)
    ∧ (∀ (x : Int32) (r : List Value) (K : Int32 → List Value → Prop), kg_1i (.int x :: r) K = K x r)
    ∧ (∀ (x : Nat) (r : List Value) (K : Nat → List Value → Prop), kg_1r (.ref x :: r) K = K x r)
    ∧ (∀ (x y : Int32) (r : List Value) (K : Int32 → Int32 → List Value → Prop), kg_2i (.int y :: .int x :: r) K = K x y r)
    ∧ (∀ (i : Int32) (p : Nat) (r : List Value) (K : Int32 → Nat → List Value → Prop), kg_ir (.int i :: .ref p :: r) K = K i p r)
    ∧ (∀ (x i : Int32) (p : Nat) (r : List Value) (K : Int32 → Int32 → Nat → List Value → Prop), kg_iir (.int x :: .int i :: .ref p :: r) K = K x i p r)
    ∧ (∀ (st acc : List Value) (K : List Value → List Value → Prop), kg_args 0 st acc K = K acc st)
    ∧ (∀ (n : Nat) (v : Value) (st acc : List Value) (K : List Value → List Value → Prop), kg_args (n + 1) (v :: st) acc K = kg_args n st (v :: acc) K)
    ∧ (∀ (k : kg_K) (nx : Nat) (ls : List (Option Value)) (r : List Value) (x : Value) (w : kg_W) (M : kg_M), kg_kont k nx ls r (some x) w M = k nx ls (x :: r) w M)
    ∧ (∀ (k : kg_K) (nx : Nat) (ls : List (Option Value)) (r : List Value) (w : kg_W) (M : kg_M), kg_kont k nx ls r none w M = k nx ls r w M)
    ∧ (∀ x y : Int32, kg_cmp 0 x y = (x = y))
    ∧ (∀ x y : Int32, kg_cmp 1 x y = (¬ x = y))
    ∧ (∀ x y : Int32, kg_cmp 2 x y = (x < y))
    ∧ (∀ x y : Int32, kg_cmp 3 x y = (y ≤ x))
    ∧ (∀ x y : Int32, kg_cmp 4 x y = (y < x))
    ∧ (∀ x y : Int32, kg_cmp 5 x y = (x ≤ y)) := by
  refine ⟨?_, ?_, ?_, ?_, ?_, ?_, ?_, ?_, ?_, ?_, ?_, ?_, ?_, ?_, ?_, ?_, ?_, ?_, ?_, ?_, ?_, ?_, ?_, ?_, ?_, ?_⟩ <;> (intros; rfl)
set_option maxRecDepth 100000 in
theorem kg_S2 : (∀ (G : kg_G) (NX : Nat) (call : kg_Ct) (ret : kg_Qt) (a b c : Nat) (l : List (Nat × Nat)) (nx : Nat) (k : kg_K) (ls : List (Option Value)) (st : List Value) (w : kg_W) (M : kg_M), kg_exs G NX call ret 0 a b c l nx k ls st w M = (k nx ls (.int (nI a) :: st) w M))
    ∧ (∀ (G : kg_G) (NX : Nat) (call : kg_Ct) (ret : kg_Qt) (a b c : Nat) (l : List (Nat × Nat)) (nx : Nat) (k : kg_K) (ls : List (Option Value)) (st : List Value) (w : kg_W) (M : kg_M), kg_exs G NX call ret 1 a b c l nx k ls st w M = (k nx ls (.int (kg_n a) :: st) w M))
    ∧ (∀ (G : kg_G) (NX : Nat) (call : kg_Ct) (ret : kg_Qt) (a b c : Nat) (l : List (Nat × Nat)) (nx : Nat) (k : kg_K) (ls : List (Option Value)) (st : List Value) (w : kg_W) (M : kg_M), kg_exs G NX call ret 2 a b c l nx k ls st w M = (kg_vi (kg_lg ls a) (fun x => k nx ls (.int x :: st) w M)))
    ∧ (∀ (G : kg_G) (NX : Nat) (call : kg_Ct) (ret : kg_Qt) (a b c : Nat) (l : List (Nat × Nat)) (nx : Nat) (k : kg_K) (ls : List (Option Value)) (st : List Value) (w : kg_W) (M : kg_M), kg_exs G NX call ret 3 a b c l nx k ls st w M = (kg_vr (kg_lg ls a) (fun x => k nx ls (.ref x :: st) w M)))
    ∧ (∀ (G : kg_G) (NX : Nat) (call : kg_Ct) (ret : kg_Qt) (a b c : Nat) (l : List (Nat × Nat)) (nx : Nat) (k : kg_K) (ls : List (Option Value)) (st : List Value) (w : kg_W) (M : kg_M), kg_exs G NX call ret 4 a b c l nx k ls st w M = (kg_1i st (fun x r => k nx (kg_ls ls a (.int x)) r w M)))
    ∧ (∀ (G : kg_G) (NX : Nat) (call : kg_Ct) (ret : kg_Qt) (a b c : Nat) (l : List (Nat × Nat)) (nx : Nat) (k : kg_K) (ls : List (Option Value)) (st : List Value) (w : kg_W) (M : kg_M), kg_exs G NX call ret 5 a b c l nx k ls st w M = (kg_1r st (fun x r => k nx (kg_ls ls a (.ref x)) r w M)))
    ∧ (∀ (G : kg_G) (NX : Nat) (call : kg_Ct) (ret : kg_Qt) (a b c : Nat) (l : List (Nat × Nat)) (nx : Nat) (k : kg_K) (ls : List (Option Value)) (st : List Value) (w : kg_W) (M : kg_M), kg_exs G NX call ret 6 a b c l nx k ls st w M = (kg_vi (kg_lg ls a) (fun x => k nx (kg_ls ls a (.int (x + nI b))) st w M)))
    ∧ (∀ (G : kg_G) (NX : Nat) (call : kg_Ct) (ret : kg_Qt) (a b c : Nat) (l : List (Nat × Nat)) (nx : Nat) (k : kg_K) (ls : List (Option Value)) (st : List Value) (w : kg_W) (M : kg_M), kg_exs G NX call ret 7 a b c l nx k ls st w M = (kg_2i st (fun x y r => k nx ls (.int (x + y) :: r) w M)))
    ∧ (∀ (G : kg_G) (NX : Nat) (call : kg_Ct) (ret : kg_Qt) (a b c : Nat) (l : List (Nat × Nat)) (nx : Nat) (k : kg_K) (ls : List (Option Value)) (st : List Value) (w : kg_W) (M : kg_M), kg_exs G NX call ret 8 a b c l nx k ls st w M = (kg_2i st (fun x y r => k nx ls (.int (x - y) :: r) w M)))
    ∧ (∀ (G : kg_G) (NX : Nat) (call : kg_Ct) (ret : kg_Qt) (a b c : Nat) (l : List (Nat × Nat)) (nx : Nat) (k : kg_K) (ls : List (Option Value)) (st : List Value) (w : kg_W) (M : kg_M), kg_exs G NX call ret 9 a b c l nx k ls st w M = (kg_2i st (fun x y r => k nx ls (.int (x * y) :: r) w M)))
    ∧ (∀ (G : kg_G) (NX : Nat) (call : kg_Ct) (ret : kg_Qt) (a b c : Nat) (l : List (Nat × Nat)) (nx : Nat) (k : kg_K) (ls : List (Option Value)) (st : List Value) (w : kg_W) (M : kg_M), kg_exs G NX call ret 10 a b c l nx k ls st w M = (kg_2i st (fun x y r => ¬ y = 0 ∧ k nx ls (.int (x - x / y * y) :: r) w M)))
    ∧ (∀ (G : kg_G) (NX : Nat) (call : kg_Ct) (ret : kg_Qt) (a b c : Nat) (l : List (Nat × Nat)) (nx : Nat) (k : kg_K) (ls : List (Option Value)) (st : List Value) (w : kg_W) (M : kg_M), kg_exs G NX call ret 11 a b c l nx k ls st w M = (kg_2i st (fun x y r => k nx ls (.int (x &&& y) :: r) w M)))
    ∧ (∀ (G : kg_G) (NX : Nat) (call : kg_Ct) (ret : kg_Qt) (a b c : Nat) (l : List (Nat × Nat)) (nx : Nat) (k : kg_K) (ls : List (Option Value)) (st : List Value) (w : kg_W) (M : kg_M), kg_exs G NX call ret 12 a b c l nx k ls st w M = (kg_1i st (fun x r => k nx ls (.int (x.toUInt32 % 65536).toInt32 :: r) w M)))
    ∧ (∀ (G : kg_G) (NX : Nat) (call : kg_Ct) (ret : kg_Qt) (a b c : Nat) (l : List (Nat × Nat)) (nx : Nat) (k : kg_K) (ls : List (Option Value)) (st : List Value) (w : kg_W) (M : kg_M), kg_exs G NX call ret 13 a b c l nx k ls st w M = ((match st with | v :: r => k nx ls (v :: v :: r) w M | _ => False)))
    ∧ (∀ (G : kg_G) (NX : Nat) (call : kg_Ct) (ret : kg_Qt) (a b c : Nat) (l : List (Nat × Nat)) (nx : Nat) (k : kg_K) (ls : List (Option Value)) (st : List Value) (w : kg_W) (M : kg_M), kg_exs G NX call ret 14 a b c l nx k ls st w M = ((match st with | v :: u :: r => k nx ls (v :: u :: v :: u :: r) w M | _ => False)))
    ∧ (∀ (G : kg_G) (NX : Nat) (call : kg_Ct) (ret : kg_Qt) (a b c : Nat) (l : List (Nat × Nat)) (nx : Nat) (k : kg_K) (ls : List (Option Value)) (st : List Value) (w : kg_W) (M : kg_M), kg_exs G NX call ret 15 a b c l nx k ls st w M = ((match st with | _ :: r => k nx ls r w M | _ => False)))
    ∧ (∀ (G : kg_G) (NX : Nat) (call : kg_Ct) (ret : kg_Qt) (a b c : Nat) (l : List (Nat × Nat)) (nx : Nat) (k : kg_K) (ls : List (Option Value)) (st : List Value) (w : kg_W) (M : kg_M), kg_exs G NX call ret 16 a b c l nx k ls st w M = (kg_1i st (fun x r => kg_br (kg_cmp a x (nI 0)) (k b ls r w M) (k nx ls r w M))))
    ∧ (∀ (G : kg_G) (NX : Nat) (call : kg_Ct) (ret : kg_Qt) (a b c : Nat) (l : List (Nat × Nat)) (nx : Nat) (k : kg_K) (ls : List (Option Value)) (st : List Value) (w : kg_W) (M : kg_M), kg_exs G NX call ret 17 a b c l nx k ls st w M = (kg_2i st (fun x y r => kg_br (kg_cmp a x y) (k b ls r w M) (k nx ls r w M))))
    ∧ (∀ (G : kg_G) (NX : Nat) (call : kg_Ct) (ret : kg_Qt) (a b c : Nat) (l : List (Nat × Nat)) (nx : Nat) (k : kg_K) (ls : List (Option Value)) (st : List Value) (w : kg_W) (M : kg_M), kg_exs G NX call ret 18 a b c l nx k ls st w M = (k b ls st w M))
    ∧ (∀ (G : kg_G) (NX : Nat) (call : kg_Ct) (ret : kg_Qt) (a b c : Nat) (l : List (Nat × Nat)) (nx : Nat) (k : kg_K) (ls : List (Option Value)) (st : List Value) (w : kg_W) (M : kg_M), kg_exs G NX call ret 19 a b c l nx k ls st w M = (kg_1i st (fun x r => kg_sw l b x (fun t => k t ls r w M))))
    ∧ (∀ (G : kg_G) (NX : Nat) (call : kg_Ct) (ret : kg_Qt) (a b c : Nat) (l : List (Nat × Nat)) (nx : Nat) (k : kg_K) (ls : List (Option Value)) (st : List Value) (w : kg_W) (M : kg_M), kg_exs G NX call ret 20 a b c l nx k ls st w M = (kg_1i st (fun x r => kg_sw l b x (fun t => k t ls r w M))))
    ∧ (∀ (G : kg_G) (NX : Nat) (call : kg_Ct) (ret : kg_Qt) (a b c : Nat) (l : List (Nat × Nat)) (nx : Nat) (k : kg_K) (ls : List (Option Value)) (st : List Value) (w : kg_W) (M : kg_M), kg_exs G NX call ret 21 a b c l nx k ls st w M = (kg_1r st (fun p r => kg_obj w p a (k nx ls (.int (M p b) :: r) w M))))
    ∧ (∀ (G : kg_G) (NX : Nat) (call : kg_Ct) (ret : kg_Qt) (a b c : Nat) (l : List (Nat × Nat)) (nx : Nat) (k : kg_K) (ls : List (Option Value)) (st : List Value) (w : kg_W) (M : kg_M), kg_exs G NX call ret 22 a b c l nx k ls st w M = (kg_1r st (fun p r => kg_obj w p a (w.2 p b ≠ 0 ∧ w.2 p b < 1000 ∧ k nx ls (.ref (w.2 p b) :: r) w M))))
    ∧ (∀ (G : kg_G) (NX : Nat) (call : kg_Ct) (ret : kg_Qt) (a b c : Nat) (l : List (Nat × Nat)) (nx : Nat) (k : kg_K) (ls : List (Option Value)) (st : List Value) (w : kg_W) (M : kg_M), kg_exs G NX call ret 23 a b c l nx k ls st w M = ((match st with | .int x :: .ref p :: r => kg_obj w p a (k nx ls r w (kg_wr M p b x)) | _ => False)))
    ∧ (∀ (G : kg_G) (NX : Nat) (call : kg_Ct) (ret : kg_Qt) (a b c : Nat) (l : List (Nat × Nat)) (nx : Nat) (k : kg_K) (ls : List (Option Value)) (st : List Value) (w : kg_W) (M : kg_M), kg_exs G NX call ret 24 a b c l nx k ls st w M = ((match st with | .int x :: .ref p :: r => kg_obj w p a (kg_01 x ∧ k nx ls r w (kg_wr M p b x)) | _ => False)))
    ∧ (∀ (G : kg_G) (NX : Nat) (call : kg_Ct) (ret : kg_Qt) (a b c : Nat) (l : List (Nat × Nat)) (nx : Nat) (k : kg_K) (ls : List (Option Value)) (st : List Value) (w : kg_W) (M : kg_M), kg_exs G NX call ret 25 a b c l nx k ls st w M = ((match st with | .ref q :: .ref p :: r => kg_obj w p a (q ≠ 0 ∧ q < 1000 ∧ k nx ls r (kg_wrr w p b q) M) | _ => False)))
    ∧ (∀ (G : kg_G) (NX : Nat) (call : kg_Ct) (ret : kg_Qt) (a b c : Nat) (l : List (Nat × Nat)) (nx : Nat) (k : kg_K) (ls : List (Option Value)) (st : List Value) (w : kg_W) (M : kg_M), kg_exs G NX call ret 26 a b c l nx k ls st w M = (k nx ls (.ref a :: st) w M))
    ∧ (∀ (G : kg_G) (NX : Nat) (call : kg_Ct) (ret : kg_Qt) (a b c : Nat) (l : List (Nat × Nat)) (nx : Nat) (k : kg_K) (ls : List (Option Value)) (st : List Value) (w : kg_W) (M : kg_M), kg_exs G NX call ret 27 a b c l nx k ls st w M = (kg_ir st (fun i p r => kg_ld G w M i p (fun x => k nx ls (.int x :: r) w M))))
    ∧ (∀ (G : kg_G) (NX : Nat) (call : kg_Ct) (ret : kg_Qt) (a b c : Nat) (l : List (Nat × Nat)) (nx : Nat) (k : kg_K) (ls : List (Option Value)) (st : List Value) (w : kg_W) (M : kg_M), kg_exs G NX call ret 28 a b c l nx k ls st w M = (kg_ir st (fun i p r => p < w.1 ∧ p < 1000 ∧ (kg_kd p).1 = 1 ∧ kg_at (kg_kd p).2 i (fun j => k nx ls (.int (M p j) :: r) w M))))
    ∧ (∀ (G : kg_G) (NX : Nat) (call : kg_Ct) (ret : kg_Qt) (a b c : Nat) (l : List (Nat × Nat)) (nx : Nat) (k : kg_K) (ls : List (Option Value)) (st : List Value) (w : kg_W) (M : kg_M), kg_exs G NX call ret 29 a b c l nx k ls st w M = (kg_ir st (fun i p r => p < w.1 ∧ p < 1000 ∧ (kg_kd p).1 = 2 ∧ kg_at (kg_kd p).2 i (fun j => k nx ls (.int (M p j) :: r) w M))))
    ∧ (∀ (G : kg_G) (NX : Nat) (call : kg_Ct) (ret : kg_Qt) (a b c : Nat) (l : List (Nat × Nat)) (nx : Nat) (k : kg_K) (ls : List (Option Value)) (st : List Value) (w : kg_W) (M : kg_M), kg_exs G NX call ret 30 a b c l nx k ls st w M = (kg_ir st (fun i p r => p < w.1 ∧ p < 1000 ∧ (kg_kd p).1 = 3 ∧ kg_at (kg_kd p).2 i (fun j => w.2 p j ≠ 0 ∧ w.2 p j < 1000 ∧ k nx ls (.ref (w.2 p j) :: r) w M))))
    ∧ (∀ (G : kg_G) (NX : Nat) (call : kg_Ct) (ret : kg_Qt) (a b c : Nat) (l : List (Nat × Nat)) (nx : Nat) (k : kg_K) (ls : List (Option Value)) (st : List Value) (w : kg_W) (M : kg_M), kg_exs G NX call ret 31 a b c l nx k ls st w M = (kg_iir st (fun x i p r => p < w.1 ∧ p < 1000 ∧ (kg_kd p).1 = 0 ∧ kg_at (kg_kd p).2 i (fun j => k nx ls r w (kg_wr M p j x)))))
    ∧ (∀ (G : kg_G) (NX : Nat) (call : kg_Ct) (ret : kg_Qt) (a b c : Nat) (l : List (Nat × Nat)) (nx : Nat) (k : kg_K) (ls : List (Option Value)) (st : List Value) (w : kg_W) (M : kg_M), kg_exs G NX call ret 32 a b c l nx k ls st w M = (kg_iir st (fun x i p r => p < w.1 ∧ p < 1000 ∧ (kg_kd p).1 = 1 ∧ kg_01 x ∧ kg_at (kg_kd p).2 i (fun j => k nx ls r w (kg_wr M p j x)))))
    ∧ (∀ (G : kg_G) (NX : Nat) (call : kg_Ct) (ret : kg_Qt) (a b c : Nat) (l : List (Nat × Nat)) (nx : Nat) (k : kg_K) (ls : List (Option Value)) (st : List Value) (w : kg_W) (M : kg_M), kg_exs G NX call ret 33 a b c l nx k ls st w M = (kg_iir st (fun x i p r => p < w.1 ∧ p < 1000 ∧ (kg_kd p).1 = 2 ∧ kg_at 65536 x (fun z => kg_at (kg_kd p).2 i (fun j => k nx ls r w (kg_wr M p j (nI z)))))))
    ∧ (∀ (G : kg_G) (NX : Nat) (call : kg_Ct) (ret : kg_Qt) (a b c : Nat) (l : List (Nat × Nat)) (nx : Nat) (k : kg_K) (ls : List (Option Value)) (st : List Value) (w : kg_W) (M : kg_M), kg_exs G NX call ret 34 a b c l nx k ls st w M = ((match st with | .ref q :: .int i :: .ref p :: r => p < w.1 ∧ p < 1000 ∧ (kg_kd p).1 = 3 ∧ q ≠ 0 ∧ q < 1000 ∧ q < w.1 ∧ kg_kd q = (4, 4) ∧ kg_at (kg_kd p).2 i (fun j => k nx ls r (kg_wrr w p j q) M) | _ => False)))
    ∧ (∀ (G : kg_G) (NX : Nat) (call : kg_Ct) (ret : kg_Qt) (a b c : Nat) (l : List (Nat × Nat)) (nx : Nat) (k : kg_K) (ls : List (Option Value)) (st : List Value) (w : kg_W) (M : kg_M), kg_exs G NX call ret 35 a b c l nx k ls st w M = ((match st with | .ref p :: r => p = 1000 ∧ k nx ls (.int (nI G.2.2.2.2.2.1) :: r) w M | _ => False)))
    ∧ (∀ (G : kg_G) (NX : Nat) (call : kg_Ct) (ret : kg_Qt) (a b c : Nat) (l : List (Nat × Nat)) (nx : Nat) (k : kg_K) (ls : List (Option Value)) (st : List Value) (w : kg_W) (M : kg_M), kg_exs G NX call ret 36 a b c l nx k ls st w M = (w.1 < 125 ∧ w.1 + 1 ≤ NX ∧ kg_kd w.1 = (4, a) ∧ k nx ls (.ref w.1 :: st) (kg_new w (fun _ => 0)) (kg_row M w.1 (fun _ => 0))))
    ∧ (∀ (G : kg_G) (NX : Nat) (call : kg_Ct) (ret : kg_Qt) (a b c : Nat) (l : List (Nat × Nat)) (nx : Nat) (k : kg_K) (ls : List (Option Value)) (st : List Value) (w : kg_W) (M : kg_M), kg_exs G NX call ret 37 a b c l nx k ls st w M = (kg_1i st (fun n r => w.1 < 125 ∧ w.1 + 1 ≤ NX ∧ (kg_kd w.1).1 = a ∧ n = nI (kg_kd w.1).2 ∧ k nx ls (.ref w.1 :: r) (kg_new w (fun _ => 0)) (kg_row M w.1 (fun _ => 0)))))
    ∧ (∀ (G : kg_G) (NX : Nat) (call : kg_Ct) (ret : kg_Qt) (a b c : Nat) (l : List (Nat × Nat)) (nx : Nat) (k : kg_K) (ls : List (Option Value)) (st : List Value) (w : kg_W) (M : kg_M), kg_exs G NX call ret 38 a b c l nx k ls st w M = (kg_1i st (fun n r => w.1 < 125 ∧ w.1 + 1 ≤ NX ∧ (kg_kd w.1).1 = 3 ∧ n = nI (kg_kd w.1).2 ∧ k nx ls (.ref w.1 :: r) (kg_new w (fun _ => 0)) (kg_row M w.1 (fun _ => 0)))))
    ∧ (∀ (G : kg_G) (NX : Nat) (call : kg_Ct) (ret : kg_Qt) (a b c : Nat) (l : List (Nat × Nat)) (nx : Nat) (k : kg_K) (ls : List (Option Value)) (st : List Value) (w : kg_W) (M : kg_M), kg_exs G NX call ret 39 a b c l nx k ls st w M = (kg_args b st [] (fun as r => match as with | .ref p :: _ => r.length ≤ 8 ∧ p < w.1 ∧ p < 1000 ∧ kg_kd p = (4, kg_mc a) ∧ call a as w M (kg_kont k nx ls r) | _ => False)))
    ∧ (∀ (G : kg_G) (NX : Nat) (call : kg_Ct) (ret : kg_Qt) (a b c : Nat) (l : List (Nat × Nat)) (nx : Nat) (k : kg_K) (ls : List (Option Value)) (st : List Value) (w : kg_W) (M : kg_M), kg_exs G NX call ret 40 a b c l nx k ls st w M = (kg_args b st [] (fun as r => r.length ≤ 8 ∧ call a as w M (kg_kont k nx ls r))))
    ∧ (∀ (G : kg_G) (NX : Nat) (call : kg_Ct) (ret : kg_Qt) (a b c : Nat) (l : List (Nat × Nat)) (nx : Nat) (k : kg_K) (ls : List (Option Value)) (st : List Value) (w : kg_W) (M : kg_M), kg_exs G NX call ret 41 a b c l nx k ls st w M = (kg_args b st [] (fun as r => r.length ≤ 8 ∧ call a as w M (kg_kont k nx ls r))))
    ∧ (∀ (G : kg_G) (NX : Nat) (call : kg_Ct) (ret : kg_Qt) (a b c : Nat) (l : List (Nat × Nat)) (nx : Nat) (k : kg_K) (ls : List (Option Value)) (st : List Value) (w : kg_W) (M : kg_M), kg_exs G NX call ret 42 a b c l nx k ls st w M = (kg_1r st (fun p r => p < 1000 ∧ r.length ≤ 8 ∧ call a [.ref p] w M (kg_kont k nx ls r))))
    ∧ (∀ (G : kg_G) (NX : Nat) (call : kg_Ct) (ret : kg_Qt) (a b c : Nat) (l : List (Nat × Nat)) (nx : Nat) (k : kg_K) (ls : List (Option Value)) (st : List Value) (w : kg_W) (M : kg_M), kg_exs G NX call ret 43 a b c l nx k ls st w M = (kg_1r st (fun p r => p < 1000 ∧ r.length ≤ 8 ∧ call a [.ref p] w M (kg_kont k nx ls r))))
    ∧ (∀ (G : kg_G) (NX : Nat) (call : kg_Ct) (ret : kg_Qt) (a b c : Nat) (l : List (Nat × Nat)) (nx : Nat) (k : kg_K) (ls : List (Option Value)) (st : List Value) (w : kg_W) (M : kg_M), kg_exs G NX call ret 44 a b c l nx k ls st w M = (kg_1r st (fun p r => r.length ≤ 8 ∧ k nx ls r w M)))
    ∧ (∀ (G : kg_G) (NX : Nat) (call : kg_Ct) (ret : kg_Qt) (a b c : Nat) (l : List (Nat × Nat)) (nx : Nat) (k : kg_K) (ls : List (Option Value)) (st : List Value) (w : kg_W) (M : kg_M), kg_exs G NX call ret 45 a b c l nx k ls st w M = (kg_2i st (fun x y r => r.length ≤ 8 ∧ k nx ls (.int (if y < x then y else x) :: r) w M)))
    ∧ (∀ (G : kg_G) (NX : Nat) (call : kg_Ct) (ret : kg_Qt) (a b c : Nat) (l : List (Nat × Nat)) (nx : Nat) (k : kg_K) (ls : List (Option Value)) (st : List Value) (w : kg_W) (M : kg_M), kg_exs G NX call ret 46 a b c l nx k ls st w M = (kg_2i st (fun x y r => r.length ≤ 8 ∧ k nx ls (.int (if x < y then y else x) :: r) w M)))
    ∧ (∀ (G : kg_G) (NX : Nat) (call : kg_Ct) (ret : kg_Qt) (a b c : Nat) (l : List (Nat × Nat)) (nx : Nat) (k : kg_K) (ls : List (Option Value)) (st : List Value) (w : kg_W) (M : kg_M), kg_exs G NX call ret 47 a b c l nx k ls st w M = ((match st with | .int n :: .int z2 :: .ref q :: .int z1 :: .ref p :: r => r.length ≤ 6 ∧ ¬ w.1 < 125 ∧ z1 = nI 0 ∧ z2 = nI 0 ∧ p < w.1 ∧ p < 1000 ∧ q < w.1 ∧ q < 1000 ∧ (kg_kd p).1 = 0 ∧ (kg_kd q).1 = 0 ∧ ∃ j, j < 2 ^ 31 ∧ n = nI j ∧ j ≤ (kg_kd p).2 ∧ j ≤ (kg_kd q).2 ∧ k nx ls r w (kg_cpy M p q j) | _ => False)))
    ∧ (∀ (G : kg_G) (NX : Nat) (call : kg_Ct) (ret : kg_Qt) (a b c : Nat) (l : List (Nat × Nat)) (nx : Nat) (k : kg_K) (ls : List (Option Value)) (st : List Value) (w : kg_W) (M : kg_M), kg_exs G NX call ret 48 a b c l nx k ls st w M = ((match st with | [.int x] => ret (some (.int x)) w M | _ => False)))
    ∧ (∀ (G : kg_G) (NX : Nat) (call : kg_Ct) (ret : kg_Qt) (a b c : Nat) (l : List (Nat × Nat)) (nx : Nat) (k : kg_K) (ls : List (Option Value)) (st : List Value) (w : kg_W) (M : kg_M), kg_exs G NX call ret 49 a b c l nx k ls st w M = ((match st with | [] => ret none w M | _ => False)))
    ∧ (∀ (G : kg_G) (NX : Nat) (call : kg_Ct) (ret : kg_Qt) (a b c : Nat) (l : List (Nat × Nat)) (nx : Nat) (k : kg_K) (ls : List (Option Value)) (st : List Value) (w : kg_W) (M : kg_M), kg_exs G NX call ret 50 a b c l nx k ls st w M = (kg_2i st (fun x y r => k nx ls (.int (x >>> (y &&& 31)) :: r) w M)))
    ∧ (∀ (G : kg_G) (NX : Nat) (call : kg_Ct) (ret : kg_Qt) (a b c : Nat) (l : List (Nat × Nat)) (nx : Nat) (k : kg_K) (ls : List (Option Value)) (st : List Value) (w : kg_W) (M : kg_M), kg_exs G NX call ret 51 a b c l nx k ls st w M = (kg_2i st (fun x y r => ¬ y = 0 ∧ k nx ls (.int (x / y) :: r) w M))) := by
  refine ⟨?_, ?_, ?_, ?_, ?_, ?_, ?_, ?_, ?_, ?_, ?_, ?_, ?_, ?_, ?_, ?_, ?_, ?_, ?_, ?_, ?_, ?_, ?_, ?_, ?_, ?_, ?_, ?_, ?_, ?_, ?_, ?_, ?_, ?_, ?_, ?_, ?_, ?_, ?_, ?_, ?_, ?_, ?_, ?_, ?_, ?_, ?_, ?_, ?_, ?_, ?_, ?_⟩ <;> (intros; rfl)
theorem kg_br_t {c A B : Prop} (h : c) : kg_br c A B = A := propext ⟨fun q => q.1 h, fun q => ⟨fun _ => q, fun e => absurd h e⟩⟩
theorem kg_br_f {c A B : Prop} (h : ¬ c) : kg_br c A B = B := propext ⟨fun q => q.2 h, fun q => ⟨fun e => absurd e h, fun _ => q⟩⟩
theorem kg_br_T (A B : Prop) : kg_br True A B = A := kg_br_t trivial
theorem kg_br_F (A B : Prop) : kg_br False A B = B := kg_br_f id
theorem kg_br_N (c A B : Prop) : kg_br (¬ c) A B = kg_br c B A := propext ⟨fun q => ⟨fun h => q.2 (fun e => e h), q.1⟩, fun q => ⟨q.2, fun h => q.1 (Classical.byContradiction h)⟩⟩
theorem kg_br_i {c A B : Prop} (h1 : c → A) (h2 : ¬ c → B) : kg_br c A B := ⟨h1, h2⟩
theorem kg_at_n {n a : Nat} {K : Nat → Prop} (h : a < n) (hn : n ≤ 2147483648) : kg_at n (nI a) K = K a := by
  refine propext ⟨fun ⟨j, h1, h2, h3⟩ => ?_, fun h3 => ⟨a, h, rfl, h3⟩⟩
  rw [(nI_eq (a := a) (b := j) (by omega) (by omega)).mp h2]
  exact h3
theorem kg_at_i {n a : Nat} {K : Nat → Prop} (h : a < n) (h3 : K a) : kg_at n (nI a) K := ⟨a, h, rfl, h3⟩
theorem kg_sub_n {a b : Nat} (h : b ≤ a) : nI a - nI b = nI (a - b) := pk_sub h
theorem kg_rem_n {a b : Nat} (ha : a < 2147483648) (h0 : 0 < b) (hb : b < 2147483648) : nI a - nI a / nI b * nI b = nI (a % b) := pk_rem ha h0 hb
theorem kg_eq_n {a b : Nat} (ha : a < 2147483648) (hb : b < 2147483648) : (nI a = nI b) = (a = b) := propext (nI_eq ha hb)
theorem kg_lt_n {a b : Nat} (ha : a < 2147483648) (hb : b < 2147483648) : (nI a < nI b) = (a < b) := propext (nI_ltI ha hb)
theorem kg_le_n {a b : Nat} (ha : a < 2147483648) (hb : b < 2147483648) : (nI a ≤ nI b) = (a ≤ b) := propext (nI_leI ha hb)
theorem kg_nz {b : Nat} (h0 : 0 < b) (hb : b < 2147483648) : (nI b = 0) = False := by
  refine propext ⟨fun h => ?_, False.elim⟩
  have := (nI_eq (a := b) (b := 0) hb (by omega)).mp h
  omega
theorem kg_01_0 : kg_01 (nI 0) = True := propext ⟨fun _ => trivial, fun _ => Or.inl rfl⟩
theorem kg_01_1 : kg_01 (nI 1) = True := propext ⟨fun _ => trivial, fun _ => Or.inr rfl⟩
theorem kg_w0_1 (h : Nat → Nat) : (kg_w0 h).1 = 125 := rfl
theorem kg_ret0 (K : kg_Qt) (h : Nat → Nat) (M : kg_M) : kg_ret 0 125 K none (kg_w0 h) M = K none (kg_w0 h) M := by simp [kg_ret, kg_rk, kg_w0_1]
theorem kg_ret1 (K : kg_Qt) (x : Int32) (h : Nat → Nat) (M : kg_M) : kg_ret 1 125 K (some (.int x)) (kg_w0 h) M = K (some (.int x)) (kg_w0 h) M := by simp [kg_ret, kg_rk, kg_w0_1]
theorem kg_ret2 (K : kg_Qt) (x : Int32) (h : Nat → Nat) (M : kg_M) : kg_ret 2 125 K (some (.int x)) (kg_w0 h) M = (kg_01 x ∧ K (some (.int x)) (kg_w0 h) M) := by simp [kg_ret, kg_rk, kg_w0_1]
theorem kg_wr_n {M : kg_M} {p j q : Nat} {v : Int32} (h : q ≠ p) : kg_wr M p j v q = M q := kg_wr_ne h
theorem kg_wr_s (M : kg_M) (p j i : Nat) (v : Int32) : kg_wr M p j v p i = if i = j then v else M p i := by simp [kg_wr]
set_option maxRecDepth 100000 in
theorem kg_Skd : kg_kd 0 = (4, 5)
    ∧ kg_kd 1 = (4, 4)
    ∧ kg_kd 2 = (0, 5)
    ∧ kg_kd 3 = (1, 4)
    ∧ kg_kd 4 = (4, 1)
    ∧ kg_kd 5 = (0, 40)
    ∧ kg_kd 6 = (0, 40)
    ∧ kg_kd 7 = (0, 40)
    ∧ kg_kd 8 = (0, 40)
    ∧ kg_kd 9 = (0, 16)
    ∧ kg_kd 10 = (4, 2)
    ∧ kg_kd 11 = (0, 10)
    ∧ kg_kd 12 = (0, 10)
    ∧ kg_kd 13 = (0, 10)
    ∧ kg_kd 14 = (4, 0)
    ∧ kg_kd 15 = (0, 4)
    ∧ kg_kd 16 = (0, 10)
    ∧ kg_kd 17 = (0, 10)
    ∧ kg_kd 18 = (0, 10)
    ∧ kg_kd 19 = (0, 10)
    ∧ kg_kd 20 = (0, 4)
    ∧ kg_kd 21 = (3, 4)
    ∧ kg_kd 22 = (4, 4)
    ∧ kg_kd 23 = (0, 5)
    ∧ kg_kd 24 = (1, 4)
    ∧ kg_kd 25 = (4, 1)
    ∧ kg_kd 26 = (0, 40)
    ∧ kg_kd 27 = (0, 40)
    ∧ kg_kd 28 = (0, 40)
    ∧ kg_kd 29 = (0, 40)
    ∧ kg_kd 30 = (0, 16)
    ∧ kg_kd 31 = (4, 2)
    ∧ kg_kd 32 = (0, 10)
    ∧ kg_kd 33 = (0, 10)
    ∧ kg_kd 34 = (0, 10)
    ∧ kg_kd 35 = (4, 0)
    ∧ kg_kd 36 = (0, 4)
    ∧ kg_kd 37 = (0, 10)
    ∧ kg_kd 38 = (0, 10)
    ∧ kg_kd 39 = (0, 10)
    ∧ kg_kd 40 = (0, 10)
    ∧ kg_kd 41 = (0, 4)
    ∧ kg_kd 42 = (4, 4)
    ∧ kg_kd 43 = (0, 5)
    ∧ kg_kd 44 = (1, 4)
    ∧ kg_kd 45 = (4, 1)
    ∧ kg_kd 46 = (0, 40)
    ∧ kg_kd 47 = (0, 40)
    ∧ kg_kd 48 = (0, 40)
    ∧ kg_kd 49 = (0, 40)
    ∧ kg_kd 50 = (0, 16)
    ∧ kg_kd 51 = (4, 2)
    ∧ kg_kd 52 = (0, 10)
    ∧ kg_kd 53 = (0, 10)
    ∧ kg_kd 54 = (0, 10)
    ∧ kg_kd 55 = (4, 0)
    ∧ kg_kd 56 = (0, 4)
    ∧ kg_kd 57 = (0, 10)
    ∧ kg_kd 58 = (0, 10)
    ∧ kg_kd 59 = (0, 10)
    ∧ kg_kd 60 = (0, 10)
    ∧ kg_kd 61 = (0, 4)
    ∧ kg_kd 62 = (4, 4)
    ∧ kg_kd 63 = (0, 5)
    ∧ kg_kd 64 = (1, 4)
    ∧ kg_kd 65 = (4, 1)
    ∧ kg_kd 66 = (0, 40)
    ∧ kg_kd 67 = (0, 40)
    ∧ kg_kd 68 = (0, 40)
    ∧ kg_kd 69 = (0, 40)
    ∧ kg_kd 70 = (0, 16)
    ∧ kg_kd 71 = (4, 2)
    ∧ kg_kd 72 = (0, 10)
    ∧ kg_kd 73 = (0, 10)
    ∧ kg_kd 74 = (0, 10)
    ∧ kg_kd 75 = (4, 0)
    ∧ kg_kd 76 = (0, 4)
    ∧ kg_kd 77 = (0, 10)
    ∧ kg_kd 78 = (0, 10)
    ∧ kg_kd 79 = (0, 10)
    ∧ kg_kd 80 = (0, 10)
    ∧ kg_kd 81 = (0, 4)
    ∧ kg_kd 82 = (4, 4)
    ∧ kg_kd 83 = (0, 5)
    ∧ kg_kd 84 = (1, 4)
    ∧ kg_kd 85 = (4, 1)
    ∧ kg_kd 86 = (0, 40)
    ∧ kg_kd 87 = (0, 40)
    ∧ kg_kd 88 = (0, 40)
    ∧ kg_kd 89 = (0, 40)
    ∧ kg_kd 90 = (0, 16)
    ∧ kg_kd 91 = (4, 2)
    ∧ kg_kd 92 = (0, 10)
    ∧ kg_kd 93 = (0, 10)
    ∧ kg_kd 94 = (0, 10)
    ∧ kg_kd 95 = (4, 0)
    ∧ kg_kd 96 = (0, 4)
    ∧ kg_kd 97 = (0, 10)
    ∧ kg_kd 98 = (0, 10)
    ∧ kg_kd 99 = (0, 10)
    ∧ kg_kd 100 = (0, 10)
    ∧ kg_kd 101 = (0, 4)
    ∧ kg_kd 102 = (4, 4)
    ∧ kg_kd 103 = (0, 5)
    ∧ kg_kd 104 = (1, 4)
    ∧ kg_kd 105 = (4, 1)
    ∧ kg_kd 106 = (0, 40)
    ∧ kg_kd 107 = (0, 40)
    ∧ kg_kd 108 = (0, 40)
    ∧ kg_kd 109 = (0, 40)
    ∧ kg_kd 110 = (0, 16)
    ∧ kg_kd 111 = (4, 2)
    ∧ kg_kd 112 = (0, 10)
    ∧ kg_kd 113 = (0, 10)
    ∧ kg_kd 114 = (0, 10)
    ∧ kg_kd 115 = (4, 0)
    ∧ kg_kd 116 = (0, 4)
    ∧ kg_kd 117 = (0, 10)
    ∧ kg_kd 118 = (0, 10)
    ∧ kg_kd 119 = (0, 10)
    ∧ kg_kd 120 = (0, 10)
    ∧ kg_kd 121 = (0, 4)
    ∧ kg_kd 122 = (4, 3)
    ∧ kg_kd 123 = (2, 60)
    ∧ kg_kd 124 = (0, 8) := by
  refine ⟨?_, ?_, ?_, ?_, ?_, ?_, ?_, ?_, ?_, ?_, ?_, ?_, ?_, ?_, ?_, ?_, ?_, ?_, ?_, ?_, ?_, ?_, ?_, ?_, ?_, ?_, ?_, ?_, ?_, ?_, ?_, ?_, ?_, ?_, ?_, ?_, ?_, ?_, ?_, ?_, ?_, ?_, ?_, ?_, ?_, ?_, ?_, ?_, ?_, ?_, ?_, ?_, ?_, ?_, ?_, ?_, ?_, ?_, ?_, ?_, ?_, ?_, ?_, ?_, ?_, ?_, ?_, ?_, ?_, ?_, ?_, ?_, ?_, ?_, ?_, ?_, ?_, ?_, ?_, ?_, ?_, ?_, ?_, ?_, ?_, ?_, ?_, ?_, ?_, ?_, ?_, ?_, ?_, ?_, ?_, ?_, ?_, ?_, ?_, ?_, ?_, ?_, ?_, ?_, ?_, ?_, ?_, ?_, ?_, ?_, ?_, ?_, ?_, ?_, ?_, ?_, ?_, ?_, ?_, ?_, ?_, ?_, ?_, ?_, ?_⟩ <;> rfl
set_option maxRecDepth 100000 in
theorem kg_Smc : kg_mc 0 = 0
    ∧ kg_mc 1 = 0
    ∧ kg_mc 2 = 0
    ∧ kg_mc 3 = 0
    ∧ kg_mc 4 = 1
    ∧ kg_mc 5 = 1
    ∧ kg_mc 6 = 1
    ∧ kg_mc 7 = 1
    ∧ kg_mc 8 = 1
    ∧ kg_mc 9 = 1
    ∧ kg_mc 10 = 1
    ∧ kg_mc 11 = 2
    ∧ kg_mc 12 = 2
    ∧ kg_mc 13 = 2
    ∧ kg_mc 14 = 3
    ∧ kg_mc 15 = 3
    ∧ kg_mc 16 = 3
    ∧ kg_mc 17 = 3
    ∧ kg_mc 18 = 3
    ∧ kg_mc 19 = 3
    ∧ kg_mc 20 = 3
    ∧ kg_mc 21 = 4
    ∧ kg_mc 22 = 4
    ∧ kg_mc 23 = 4
    ∧ kg_mc 24 = 4
    ∧ kg_mc 25 = 4
    ∧ kg_mc 26 = 4
    ∧ kg_mc 27 = 4
    ∧ kg_mc 28 = 4
    ∧ kg_mc 29 = 4
    ∧ kg_mc 30 = 4
    ∧ kg_mc 31 = 4
    ∧ kg_mc 32 = 4
    ∧ kg_mc 33 = 4
    ∧ kg_mc 34 = 4
    ∧ kg_mc 35 = 4
    ∧ kg_mc 36 = 4
    ∧ kg_mc 37 = 4
    ∧ kg_mc 38 = 4
    ∧ kg_mc 39 = 4
    ∧ kg_mc 40 = 4
    ∧ kg_mc 41 = 4
    ∧ kg_mc 42 = 4
    ∧ kg_mc 43 = 4
    ∧ kg_mc 44 = 4
    ∧ kg_mc 45 = 4
    ∧ kg_mc 46 = 4
    ∧ kg_mc 47 = 4
    ∧ kg_mc 48 = 4
    ∧ kg_mc 49 = 4
    ∧ kg_mc 50 = 4
    ∧ kg_mc 51 = 4
    ∧ kg_mc 52 = 4
    ∧ kg_mc 53 = 4
    ∧ kg_mc 54 = 4
    ∧ kg_mc 55 = 4
    ∧ kg_mc 56 = 5
    ∧ kg_mc 57 = 5
    ∧ kg_mc 58 = 5
    ∧ kg_mc 59 = 5
    ∧ kg_mc 60 = 5
    ∧ kg_mc 61 = 5
    ∧ kg_mc 62 = 5
    ∧ kg_mc 63 = 5
    ∧ kg_mc 64 = 5
    ∧ kg_mc 65 = 5
    ∧ kg_mc 66 = 5
    ∧ kg_mc 67 = 5
    ∧ kg_mc 68 = 5
    ∧ kg_mc 69 = 5
    ∧ kg_mc 70 = 5
    ∧ kg_mc 71 = 5
    ∧ kg_mc 72 = 5
    ∧ kg_mc 73 = 5
    ∧ kg_mc 74 = 5
    ∧ kg_mc 75 = 5
    ∧ kg_mc 76 = 5
    ∧ kg_mc 77 = 5
    ∧ kg_mc 78 = 5
    ∧ kg_mc 79 = 5
    ∧ kg_mc 80 = 5
    ∧ kg_mc 81 = 5
    ∧ kg_mc 82 = 5
    ∧ kg_mc 83 = 5
    ∧ kg_mc 84 = 5
    ∧ kg_mc 85 = 5
    ∧ kg_mc 86 = 5
    ∧ kg_mc 87 = 5
    ∧ kg_mc 88 = 6
    ∧ kg_mc 89 = 6
    ∧ kg_mc 90 = 6
    ∧ kg_mc 91 = 6
    ∧ kg_mc 92 = 6
    ∧ kg_mc 93 = 6
    ∧ kg_mc 94 = 6
    ∧ kg_mc 95 = 6 := by
  refine ⟨?_, ?_, ?_, ?_, ?_, ?_, ?_, ?_, ?_, ?_, ?_, ?_, ?_, ?_, ?_, ?_, ?_, ?_, ?_, ?_, ?_, ?_, ?_, ?_, ?_, ?_, ?_, ?_, ?_, ?_, ?_, ?_, ?_, ?_, ?_, ?_, ?_, ?_, ?_, ?_, ?_, ?_, ?_, ?_, ?_, ?_, ?_, ?_, ?_, ?_, ?_, ?_, ?_, ?_, ?_, ?_, ?_, ?_, ?_, ?_, ?_, ?_, ?_, ?_, ?_, ?_, ?_, ?_, ?_, ?_, ?_, ?_, ?_, ?_, ?_, ?_, ?_, ?_, ?_, ?_, ?_, ?_, ?_, ?_, ?_, ?_, ?_, ?_, ?_, ?_, ?_, ?_, ?_, ?_, ?_, ?_⟩ <;> rfl
set_option maxRecDepth 100000 in
theorem kg_Sob : (∀ (h : Nat → Nat) (P : Prop), kg_obj (kg_w0 h) 0 5 P = P)
    ∧ (∀ (h : Nat → Nat) (P : Prop), kg_obj (kg_w0 h) 1 4 P = P)
    ∧ (∀ (h : Nat → Nat) (P : Prop), kg_obj (kg_w0 h) 4 1 P = P)
    ∧ (∀ (h : Nat → Nat) (P : Prop), kg_obj (kg_w0 h) 10 2 P = P)
    ∧ (∀ (h : Nat → Nat) (P : Prop), kg_obj (kg_w0 h) 14 0 P = P)
    ∧ (∀ (h : Nat → Nat) (P : Prop), kg_obj (kg_w0 h) 22 4 P = P)
    ∧ (∀ (h : Nat → Nat) (P : Prop), kg_obj (kg_w0 h) 25 1 P = P)
    ∧ (∀ (h : Nat → Nat) (P : Prop), kg_obj (kg_w0 h) 31 2 P = P)
    ∧ (∀ (h : Nat → Nat) (P : Prop), kg_obj (kg_w0 h) 35 0 P = P)
    ∧ (∀ (h : Nat → Nat) (P : Prop), kg_obj (kg_w0 h) 42 4 P = P)
    ∧ (∀ (h : Nat → Nat) (P : Prop), kg_obj (kg_w0 h) 45 1 P = P)
    ∧ (∀ (h : Nat → Nat) (P : Prop), kg_obj (kg_w0 h) 51 2 P = P)
    ∧ (∀ (h : Nat → Nat) (P : Prop), kg_obj (kg_w0 h) 55 0 P = P)
    ∧ (∀ (h : Nat → Nat) (P : Prop), kg_obj (kg_w0 h) 62 4 P = P)
    ∧ (∀ (h : Nat → Nat) (P : Prop), kg_obj (kg_w0 h) 65 1 P = P)
    ∧ (∀ (h : Nat → Nat) (P : Prop), kg_obj (kg_w0 h) 71 2 P = P)
    ∧ (∀ (h : Nat → Nat) (P : Prop), kg_obj (kg_w0 h) 75 0 P = P)
    ∧ (∀ (h : Nat → Nat) (P : Prop), kg_obj (kg_w0 h) 82 4 P = P)
    ∧ (∀ (h : Nat → Nat) (P : Prop), kg_obj (kg_w0 h) 85 1 P = P)
    ∧ (∀ (h : Nat → Nat) (P : Prop), kg_obj (kg_w0 h) 91 2 P = P)
    ∧ (∀ (h : Nat → Nat) (P : Prop), kg_obj (kg_w0 h) 95 0 P = P)
    ∧ (∀ (h : Nat → Nat) (P : Prop), kg_obj (kg_w0 h) 102 4 P = P)
    ∧ (∀ (h : Nat → Nat) (P : Prop), kg_obj (kg_w0 h) 105 1 P = P)
    ∧ (∀ (h : Nat → Nat) (P : Prop), kg_obj (kg_w0 h) 111 2 P = P)
    ∧ (∀ (h : Nat → Nat) (P : Prop), kg_obj (kg_w0 h) 115 0 P = P)
    ∧ (∀ (h : Nat → Nat) (P : Prop), kg_obj (kg_w0 h) 122 3 P = P) := by
  refine ⟨?_, ?_, ?_, ?_, ?_, ?_, ?_, ?_, ?_, ?_, ?_, ?_, ?_, ?_, ?_, ?_, ?_, ?_, ?_, ?_, ?_, ?_, ?_, ?_, ?_, ?_⟩ <;> (intros; simp [kg_obj, kg_Skd, kg_w0_1])
set_option maxRecDepth 100000 in
theorem kg_Srf : (∀ h : Nat → Nat, (kg_w0 h).2 0 0 = 1)
    ∧ (∀ h : Nat → Nat, (kg_w0 h).2 0 1 = 21)
    ∧ (∀ h : Nat → Nat, (kg_w0 h).2 0 3 = 102)
    ∧ (∀ h : Nat → Nat, (kg_w0 h).2 0 5 = 122)
    ∧ (∀ h : Nat → Nat, (kg_w0 h).2 122 0 = 123)
    ∧ (∀ h : Nat → Nat, (kg_w0 h).2 1 2 = 2)
    ∧ (∀ h : Nat → Nat, (kg_w0 h).2 1 3 = 3)
    ∧ (∀ h : Nat → Nat, (kg_w0 h).2 1 4 = 4)
    ∧ (∀ h : Nat → Nat, (kg_w0 h).2 1 5 = 9)
    ∧ (∀ h : Nat → Nat, (kg_w0 h).2 1 6 = 10)
    ∧ (∀ h : Nat → Nat, (kg_w0 h).2 1 7 = 14)
    ∧ (∀ h : Nat → Nat, (kg_w0 h).2 1 8 = 20)
    ∧ (∀ h : Nat → Nat, (kg_w0 h).2 4 0 = 5)
    ∧ (∀ h : Nat → Nat, (kg_w0 h).2 4 1 = 6)
    ∧ (∀ h : Nat → Nat, (kg_w0 h).2 4 2 = 7)
    ∧ (∀ h : Nat → Nat, (kg_w0 h).2 4 3 = 8)
    ∧ (∀ h : Nat → Nat, (kg_w0 h).2 10 1 = 11)
    ∧ (∀ h : Nat → Nat, (kg_w0 h).2 10 2 = 12)
    ∧ (∀ h : Nat → Nat, (kg_w0 h).2 10 3 = 13)
    ∧ (∀ h : Nat → Nat, (kg_w0 h).2 14 2 = 15)
    ∧ (∀ h : Nat → Nat, (kg_w0 h).2 14 3 = 16)
    ∧ (∀ h : Nat → Nat, (kg_w0 h).2 14 4 = 17)
    ∧ (∀ h : Nat → Nat, (kg_w0 h).2 14 5 = 18)
    ∧ (∀ h : Nat → Nat, (kg_w0 h).2 14 6 = 19)
    ∧ (∀ h : Nat → Nat, (kg_w0 h).2 22 2 = 23)
    ∧ (∀ h : Nat → Nat, (kg_w0 h).2 22 3 = 24)
    ∧ (∀ h : Nat → Nat, (kg_w0 h).2 22 4 = 25)
    ∧ (∀ h : Nat → Nat, (kg_w0 h).2 22 5 = 30)
    ∧ (∀ h : Nat → Nat, (kg_w0 h).2 22 6 = 31)
    ∧ (∀ h : Nat → Nat, (kg_w0 h).2 22 7 = 35)
    ∧ (∀ h : Nat → Nat, (kg_w0 h).2 22 8 = 41)
    ∧ (∀ h : Nat → Nat, (kg_w0 h).2 25 0 = 26)
    ∧ (∀ h : Nat → Nat, (kg_w0 h).2 25 1 = 27)
    ∧ (∀ h : Nat → Nat, (kg_w0 h).2 25 2 = 28)
    ∧ (∀ h : Nat → Nat, (kg_w0 h).2 25 3 = 29)
    ∧ (∀ h : Nat → Nat, (kg_w0 h).2 31 1 = 32)
    ∧ (∀ h : Nat → Nat, (kg_w0 h).2 31 2 = 33)
    ∧ (∀ h : Nat → Nat, (kg_w0 h).2 31 3 = 34)
    ∧ (∀ h : Nat → Nat, (kg_w0 h).2 35 2 = 36)
    ∧ (∀ h : Nat → Nat, (kg_w0 h).2 35 3 = 37)
    ∧ (∀ h : Nat → Nat, (kg_w0 h).2 35 4 = 38)
    ∧ (∀ h : Nat → Nat, (kg_w0 h).2 35 5 = 39)
    ∧ (∀ h : Nat → Nat, (kg_w0 h).2 35 6 = 40)
    ∧ (∀ h : Nat → Nat, (kg_w0 h).2 42 2 = 43)
    ∧ (∀ h : Nat → Nat, (kg_w0 h).2 42 3 = 44)
    ∧ (∀ h : Nat → Nat, (kg_w0 h).2 42 4 = 45)
    ∧ (∀ h : Nat → Nat, (kg_w0 h).2 42 5 = 50)
    ∧ (∀ h : Nat → Nat, (kg_w0 h).2 42 6 = 51)
    ∧ (∀ h : Nat → Nat, (kg_w0 h).2 42 7 = 55)
    ∧ (∀ h : Nat → Nat, (kg_w0 h).2 42 8 = 61)
    ∧ (∀ h : Nat → Nat, (kg_w0 h).2 45 0 = 46)
    ∧ (∀ h : Nat → Nat, (kg_w0 h).2 45 1 = 47)
    ∧ (∀ h : Nat → Nat, (kg_w0 h).2 45 2 = 48)
    ∧ (∀ h : Nat → Nat, (kg_w0 h).2 45 3 = 49)
    ∧ (∀ h : Nat → Nat, (kg_w0 h).2 51 1 = 52)
    ∧ (∀ h : Nat → Nat, (kg_w0 h).2 51 2 = 53)
    ∧ (∀ h : Nat → Nat, (kg_w0 h).2 51 3 = 54)
    ∧ (∀ h : Nat → Nat, (kg_w0 h).2 55 2 = 56)
    ∧ (∀ h : Nat → Nat, (kg_w0 h).2 55 3 = 57)
    ∧ (∀ h : Nat → Nat, (kg_w0 h).2 55 4 = 58)
    ∧ (∀ h : Nat → Nat, (kg_w0 h).2 55 5 = 59)
    ∧ (∀ h : Nat → Nat, (kg_w0 h).2 55 6 = 60)
    ∧ (∀ h : Nat → Nat, (kg_w0 h).2 62 2 = 63)
    ∧ (∀ h : Nat → Nat, (kg_w0 h).2 62 3 = 64)
    ∧ (∀ h : Nat → Nat, (kg_w0 h).2 62 4 = 65)
    ∧ (∀ h : Nat → Nat, (kg_w0 h).2 62 5 = 70)
    ∧ (∀ h : Nat → Nat, (kg_w0 h).2 62 6 = 71)
    ∧ (∀ h : Nat → Nat, (kg_w0 h).2 62 7 = 75)
    ∧ (∀ h : Nat → Nat, (kg_w0 h).2 62 8 = 81)
    ∧ (∀ h : Nat → Nat, (kg_w0 h).2 65 0 = 66)
    ∧ (∀ h : Nat → Nat, (kg_w0 h).2 65 1 = 67)
    ∧ (∀ h : Nat → Nat, (kg_w0 h).2 65 2 = 68)
    ∧ (∀ h : Nat → Nat, (kg_w0 h).2 65 3 = 69)
    ∧ (∀ h : Nat → Nat, (kg_w0 h).2 71 1 = 72)
    ∧ (∀ h : Nat → Nat, (kg_w0 h).2 71 2 = 73)
    ∧ (∀ h : Nat → Nat, (kg_w0 h).2 71 3 = 74)
    ∧ (∀ h : Nat → Nat, (kg_w0 h).2 75 2 = 76)
    ∧ (∀ h : Nat → Nat, (kg_w0 h).2 75 3 = 77)
    ∧ (∀ h : Nat → Nat, (kg_w0 h).2 75 4 = 78)
    ∧ (∀ h : Nat → Nat, (kg_w0 h).2 75 5 = 79)
    ∧ (∀ h : Nat → Nat, (kg_w0 h).2 75 6 = 80)
    ∧ (∀ h : Nat → Nat, (kg_w0 h).2 82 2 = 83)
    ∧ (∀ h : Nat → Nat, (kg_w0 h).2 82 3 = 84)
    ∧ (∀ h : Nat → Nat, (kg_w0 h).2 82 4 = 85)
    ∧ (∀ h : Nat → Nat, (kg_w0 h).2 82 5 = 90)
    ∧ (∀ h : Nat → Nat, (kg_w0 h).2 82 6 = 91)
    ∧ (∀ h : Nat → Nat, (kg_w0 h).2 82 7 = 95)
    ∧ (∀ h : Nat → Nat, (kg_w0 h).2 82 8 = 101)
    ∧ (∀ h : Nat → Nat, (kg_w0 h).2 85 0 = 86)
    ∧ (∀ h : Nat → Nat, (kg_w0 h).2 85 1 = 87)
    ∧ (∀ h : Nat → Nat, (kg_w0 h).2 85 2 = 88)
    ∧ (∀ h : Nat → Nat, (kg_w0 h).2 85 3 = 89)
    ∧ (∀ h : Nat → Nat, (kg_w0 h).2 91 1 = 92)
    ∧ (∀ h : Nat → Nat, (kg_w0 h).2 91 2 = 93)
    ∧ (∀ h : Nat → Nat, (kg_w0 h).2 91 3 = 94)
    ∧ (∀ h : Nat → Nat, (kg_w0 h).2 95 2 = 96)
    ∧ (∀ h : Nat → Nat, (kg_w0 h).2 95 3 = 97)
    ∧ (∀ h : Nat → Nat, (kg_w0 h).2 95 4 = 98)
    ∧ (∀ h : Nat → Nat, (kg_w0 h).2 95 5 = 99)
    ∧ (∀ h : Nat → Nat, (kg_w0 h).2 95 6 = 100)
    ∧ (∀ h : Nat → Nat, (kg_w0 h).2 102 2 = 103)
    ∧ (∀ h : Nat → Nat, (kg_w0 h).2 102 3 = 104)
    ∧ (∀ h : Nat → Nat, (kg_w0 h).2 102 4 = 105)
    ∧ (∀ h : Nat → Nat, (kg_w0 h).2 102 5 = 110)
    ∧ (∀ h : Nat → Nat, (kg_w0 h).2 102 6 = 111)
    ∧ (∀ h : Nat → Nat, (kg_w0 h).2 102 7 = 115)
    ∧ (∀ h : Nat → Nat, (kg_w0 h).2 102 8 = 121)
    ∧ (∀ h : Nat → Nat, (kg_w0 h).2 105 0 = 106)
    ∧ (∀ h : Nat → Nat, (kg_w0 h).2 105 1 = 107)
    ∧ (∀ h : Nat → Nat, (kg_w0 h).2 105 2 = 108)
    ∧ (∀ h : Nat → Nat, (kg_w0 h).2 105 3 = 109)
    ∧ (∀ h : Nat → Nat, (kg_w0 h).2 111 1 = 112)
    ∧ (∀ h : Nat → Nat, (kg_w0 h).2 111 2 = 113)
    ∧ (∀ h : Nat → Nat, (kg_w0 h).2 111 3 = 114)
    ∧ (∀ h : Nat → Nat, (kg_w0 h).2 115 2 = 116)
    ∧ (∀ h : Nat → Nat, (kg_w0 h).2 115 3 = 117)
    ∧ (∀ h : Nat → Nat, (kg_w0 h).2 115 4 = 118)
    ∧ (∀ h : Nat → Nat, (kg_w0 h).2 115 5 = 119)
    ∧ (∀ h : Nat → Nat, (kg_w0 h).2 115 6 = 120)
    ∧ (∀ (h : Nat → Nat) (j : Nat), (kg_w0 h).2 21 j = h j) := by
  refine ⟨?_, ?_, ?_, ?_, ?_, ?_, ?_, ?_, ?_, ?_, ?_, ?_, ?_, ?_, ?_, ?_, ?_, ?_, ?_, ?_, ?_, ?_, ?_, ?_, ?_, ?_, ?_, ?_, ?_, ?_, ?_, ?_, ?_, ?_, ?_, ?_, ?_, ?_, ?_, ?_, ?_, ?_, ?_, ?_, ?_, ?_, ?_, ?_, ?_, ?_, ?_, ?_, ?_, ?_, ?_, ?_, ?_, ?_, ?_, ?_, ?_, ?_, ?_, ?_, ?_, ?_, ?_, ?_, ?_, ?_, ?_, ?_, ?_, ?_, ?_, ?_, ?_, ?_, ?_, ?_, ?_, ?_, ?_, ?_, ?_, ?_, ?_, ?_, ?_, ?_, ?_, ?_, ?_, ?_, ?_, ?_, ?_, ?_, ?_, ?_, ?_, ?_, ?_, ?_, ?_, ?_, ?_, ?_, ?_, ?_, ?_, ?_, ?_, ?_, ?_, ?_, ?_, ?_, ?_, ?_⟩ <;> (intros; rfl)
set_option maxRecDepth 100000 in
theorem kg_Sld : (∀ (G : kg_G) (h : Nat → Nat) (M : kg_M) (i : Int32) (K : Int32 → Prop), kg_ld G (kg_w0 h) M i 2 K = kg_at 5 i (fun j => K (M 2 j)))
    ∧ (∀ (G : kg_G) (h : Nat → Nat) (M : kg_M) (i : Int32) (K : Int32 → Prop), kg_ld G (kg_w0 h) M i 5 K = kg_at 40 i (fun j => K (M 5 j)))
    ∧ (∀ (G : kg_G) (h : Nat → Nat) (M : kg_M) (i : Int32) (K : Int32 → Prop), kg_ld G (kg_w0 h) M i 6 K = kg_at 40 i (fun j => K (M 6 j)))
    ∧ (∀ (G : kg_G) (h : Nat → Nat) (M : kg_M) (i : Int32) (K : Int32 → Prop), kg_ld G (kg_w0 h) M i 7 K = kg_at 40 i (fun j => K (M 7 j)))
    ∧ (∀ (G : kg_G) (h : Nat → Nat) (M : kg_M) (i : Int32) (K : Int32 → Prop), kg_ld G (kg_w0 h) M i 8 K = kg_at 40 i (fun j => K (M 8 j)))
    ∧ (∀ (G : kg_G) (h : Nat → Nat) (M : kg_M) (i : Int32) (K : Int32 → Prop), kg_ld G (kg_w0 h) M i 9 K = kg_at 16 i (fun j => K (M 9 j)))
    ∧ (∀ (G : kg_G) (h : Nat → Nat) (M : kg_M) (i : Int32) (K : Int32 → Prop), kg_ld G (kg_w0 h) M i 11 K = kg_at 10 i (fun j => K (M 11 j)))
    ∧ (∀ (G : kg_G) (h : Nat → Nat) (M : kg_M) (i : Int32) (K : Int32 → Prop), kg_ld G (kg_w0 h) M i 12 K = kg_at 10 i (fun j => K (M 12 j)))
    ∧ (∀ (G : kg_G) (h : Nat → Nat) (M : kg_M) (i : Int32) (K : Int32 → Prop), kg_ld G (kg_w0 h) M i 13 K = kg_at 10 i (fun j => K (M 13 j)))
    ∧ (∀ (G : kg_G) (h : Nat → Nat) (M : kg_M) (i : Int32) (K : Int32 → Prop), kg_ld G (kg_w0 h) M i 15 K = kg_at 4 i (fun j => K (M 15 j)))
    ∧ (∀ (G : kg_G) (h : Nat → Nat) (M : kg_M) (i : Int32) (K : Int32 → Prop), kg_ld G (kg_w0 h) M i 16 K = kg_at 10 i (fun j => K (M 16 j)))
    ∧ (∀ (G : kg_G) (h : Nat → Nat) (M : kg_M) (i : Int32) (K : Int32 → Prop), kg_ld G (kg_w0 h) M i 17 K = kg_at 10 i (fun j => K (M 17 j)))
    ∧ (∀ (G : kg_G) (h : Nat → Nat) (M : kg_M) (i : Int32) (K : Int32 → Prop), kg_ld G (kg_w0 h) M i 18 K = kg_at 10 i (fun j => K (M 18 j)))
    ∧ (∀ (G : kg_G) (h : Nat → Nat) (M : kg_M) (i : Int32) (K : Int32 → Prop), kg_ld G (kg_w0 h) M i 19 K = kg_at 10 i (fun j => K (M 19 j)))
    ∧ (∀ (G : kg_G) (h : Nat → Nat) (M : kg_M) (i : Int32) (K : Int32 → Prop), kg_ld G (kg_w0 h) M i 20 K = kg_at 4 i (fun j => K (M 20 j)))
    ∧ (∀ (G : kg_G) (h : Nat → Nat) (M : kg_M) (i : Int32) (K : Int32 → Prop), kg_ld G (kg_w0 h) M i 124 K = kg_at 8 i (fun j => K (M 124 j)))
    ∧ (∀ (G : kg_G) (h : Nat → Nat) (M : kg_M) (i : Int32) (K : Int32 → Prop), kg_ld G (kg_w0 h) M i 1001 K = kg_at 5 i (fun j => K (kg_sv 1001 j)))
    ∧ (∀ (G : kg_G) (h : Nat → Nat) (M : kg_M) (i : Int32) (K : Int32 → Prop), kg_ld G (kg_w0 h) M i 1002 K = kg_at 5 i (fun j => K (kg_sv 1002 j)))
    ∧ (∀ (G : kg_G) (h : Nat → Nat) (M : kg_M) (i : Int32) (K : Int32 → Prop), kg_ld G (kg_w0 h) M i 1003 K = kg_at 5 i (fun j => K (kg_sv 1003 j))) := by
  refine ⟨?_, ?_, ?_, ?_, ?_, ?_, ?_, ?_, ?_, ?_, ?_, ?_, ?_, ?_, ?_, ?_, ?_, ?_, ?_⟩ <;> (intros; simp [kg_ld, kg_Skd, kg_w0_1])
def kg_sp0 : List Nat := []
set_option maxRecDepth 100000 in
theorem kg_ls0 : kg_lks kg_cd0 kg_sp0 0 = some (1, 3, 0, 0, 0, []) ∧ kg_lks kg_cd0 kg_sp0 1 = some (4, 44, 0, 0, 3, []) ∧ kg_lks kg_cd0 kg_sp0 4 = some (5, 3, 0, 0, 0, []) ∧ kg_lks kg_cd0 kg_sp0 5 = some (6, 0, 0, 0, 0, []) ∧ kg_lks kg_cd0 kg_sp0 6 = some (9, 23, 0, 0, 9, []) ∧ kg_lks kg_cd0 kg_sp0 9 = some (10, 3, 0, 0, 0, []) ∧ kg_lks kg_cd0 kg_sp0 10 = some (11, 0, 0, 0, 0, []) ∧ kg_lks kg_cd0 kg_sp0 11 = some (14, 23, 0, 1, 15, []) ∧ kg_lks kg_cd0 kg_sp0 14 = some (15, 3, 0, 0, 0, []) ∧ kg_lks kg_cd0 kg_sp0 15 = some (16, 0, 4, 0, 0, []) ∧ kg_lks kg_cd0 kg_sp0 16 = some (18, 37, 0, 0, 0, []) ∧ kg_lks kg_cd0 kg_sp0 18 = some (21, 25, 0, 2, 18, []) ∧ kg_lks kg_cd0 kg_sp0 21 = some (22, 3, 0, 0, 0, []) ∧ kg_lks kg_cd0 kg_sp0 22 = some (24, 0, 10, 0, 0, []) ∧ kg_lks kg_cd0 kg_sp0 24 = some (26, 37, 0, 0, 0, []) ∧ kg_lks kg_cd0 kg_sp0 26 = some (29, 25, 0, 3, 22, []) ∧ kg_lks kg_cd0 kg_sp0 29 = some (30, 3, 0, 0, 0, []) ∧ kg_lks kg_cd0 kg_sp0 30 = some (32, 0, 10, 0, 0, []) ∧ kg_lks kg_cd0 kg_sp0 32 = some (34, 37, 0, 0, 0, []) ∧ kg_lks kg_cd0 kg_sp0 34 = some (37, 25, 0, 4, 25, []) ∧ kg_lks kg_cd0 kg_sp0 37 = some (38, 3, 0, 0, 0, []) ∧ kg_lks kg_cd0 kg_sp0 38 = some (40, 0, 10, 0, 0, []) ∧ kg_lks kg_cd0 kg_sp0 40 = some (42, 37, 0, 0, 0, []) ∧ kg_lks kg_cd0 kg_sp0 42 = some (45, 25, 0, 5, 28, []) ∧ kg_lks kg_cd0 kg_sp0 45 = some (46, 3, 0, 0, 0, []) ∧ kg_lks kg_cd0 kg_sp0 46 = some (48, 0, 10, 0, 0, []) ∧ kg_lks kg_cd0 kg_sp0 48 = some (50, 37, 0, 0, 0, []) ∧ kg_lks kg_cd0 kg_sp0 50 = some (53, 25, 0, 6, 31, []) ∧ kg_lks kg_cd0 kg_sp0 53 = some (54, 49, 0, 0, 0, []) := by refine ⟨?_, ?_, ?_, ?_, ?_, ?_, ?_, ?_, ?_, ?_, ?_, ?_, ?_, ?_, ?_, ?_, ?_, ?_, ?_, ?_, ?_, ?_, ?_, ?_, ?_, ?_, ?_, ?_, ?_⟩ <;> rfl
theorem kg_v0 {G : kg_G} (hL : G.2.2.2.2.2.1 < 2 ^ 31) {d N0 NX : Nat} (hd : 1 ≤ d) {K : kg_Qt} (f : Nat) {pc : Nat} {ls : List (Option Value)} {st : List Value} {w : kg_W} {M : kg_M} (h : kg_go G NX (kg_call G d NX) (kg_ret 0 NX K) kg_cd0 kg_sp0 (kg_P G d 0 1 N0 NX K) f pc ls st w M) : kg_P G d 0 1 N0 NX K pc ls st w M := kg_vgo hL hd kg_ok0 rfl rfl rfl rfl (fun _ => rfl) h
theorem kg_m0 {G : kg_G} {d NX : Nat} {K : kg_Qt} {args : List Value} {w : kg_W} {M : kg_M} (hal : args.length ≤ 1) (hw : w.1 ≤ NX) (h : kg_P G d 0 1 w.1 NX K 0 (kg_pad 1 args) [] w M) : kg_call G (d + 1) NX 0 args w M K := kg_P_call (by omega) rfl hal hw h
def kg_sp1 : List Nat := []
set_option maxRecDepth 100000 in
theorem kg_ls1 : kg_lks kg_cd1 kg_sp1 0 = some (1, 3, 0, 0, 0, []) ∧ kg_lks kg_cd1 kg_sp1 1 = some (2, 3, 1, 0, 0, []) ∧ kg_lks kg_cd1 kg_sp1 2 = some (5, 21, 0, 0, 9, []) ∧ kg_lks kg_cd1 kg_sp1 5 = some (8, 23, 0, 0, 9, []) ∧ kg_lks kg_cd1 kg_sp1 8 = some (9, 3, 0, 0, 0, []) ∧ kg_lks kg_cd1 kg_sp1 9 = some (10, 3, 1, 0, 0, []) ∧ kg_lks kg_cd1 kg_sp1 10 = some (13, 21, 0, 1, 15, []) ∧ kg_lks kg_cd1 kg_sp1 13 = some (16, 23, 0, 1, 15, []) ∧ kg_lks kg_cd1 kg_sp1 16 = some (17, 3, 1, 0, 0, []) ∧ kg_lks kg_cd1 kg_sp1 17 = some (20, 22, 0, 2, 18, []) ∧ kg_lks kg_cd1 kg_sp1 20 = some (21, 0, 0, 0, 0, []) ∧ kg_lks kg_cd1 kg_sp1 21 = some (22, 3, 0, 0, 0, []) ∧ kg_lks kg_cd1 kg_sp1 22 = some (25, 22, 0, 2, 18, []) ∧ kg_lks kg_cd1 kg_sp1 25 = some (26, 0, 0, 0, 0, []) ∧ kg_lks kg_cd1 kg_sp1 26 = some (27, 0, 4, 0, 0, []) ∧ kg_lks kg_cd1 kg_sp1 27 = some (30, 47, 0, 0, 34, []) ∧ kg_lks kg_cd1 kg_sp1 30 = some (31, 3, 1, 0, 0, []) ∧ kg_lks kg_cd1 kg_sp1 31 = some (34, 22, 0, 3, 22, []) ∧ kg_lks kg_cd1 kg_sp1 34 = some (35, 0, 0, 0, 0, []) ∧ kg_lks kg_cd1 kg_sp1 35 = some (36, 3, 0, 0, 0, []) ∧ kg_lks kg_cd1 kg_sp1 36 = some (39, 22, 0, 3, 22, []) ∧ kg_lks kg_cd1 kg_sp1 39 = some (40, 0, 0, 0, 0, []) ∧ kg_lks kg_cd1 kg_sp1 40 = some (42, 0, 10, 0, 0, []) ∧ kg_lks kg_cd1 kg_sp1 42 = some (45, 47, 0, 0, 34, []) ∧ kg_lks kg_cd1 kg_sp1 45 = some (46, 3, 1, 0, 0, []) ∧ kg_lks kg_cd1 kg_sp1 46 = some (49, 22, 0, 4, 25, []) ∧ kg_lks kg_cd1 kg_sp1 49 = some (50, 0, 0, 0, 0, []) ∧ kg_lks kg_cd1 kg_sp1 50 = some (51, 3, 0, 0, 0, []) ∧ kg_lks kg_cd1 kg_sp1 51 = some (54, 22, 0, 4, 25, []) ∧ kg_lks kg_cd1 kg_sp1 54 = some (55, 0, 0, 0, 0, []) ∧ kg_lks kg_cd1 kg_sp1 55 = some (57, 0, 10, 0, 0, []) ∧ kg_lks kg_cd1 kg_sp1 57 = some (60, 47, 0, 0, 34, []) ∧ kg_lks kg_cd1 kg_sp1 60 = some (61, 3, 1, 0, 0, []) ∧ kg_lks kg_cd1 kg_sp1 61 = some (64, 22, 0, 5, 28, []) ∧ kg_lks kg_cd1 kg_sp1 64 = some (65, 0, 0, 0, 0, []) ∧ kg_lks kg_cd1 kg_sp1 65 = some (66, 3, 0, 0, 0, []) ∧ kg_lks kg_cd1 kg_sp1 66 = some (69, 22, 0, 5, 28, []) ∧ kg_lks kg_cd1 kg_sp1 69 = some (70, 0, 0, 0, 0, []) ∧ kg_lks kg_cd1 kg_sp1 70 = some (72, 0, 10, 0, 0, []) ∧ kg_lks kg_cd1 kg_sp1 72 = some (75, 47, 0, 0, 34, []) ∧ kg_lks kg_cd1 kg_sp1 75 = some (76, 3, 1, 0, 0, []) ∧ kg_lks kg_cd1 kg_sp1 76 = some (79, 22, 0, 6, 31, []) ∧ kg_lks kg_cd1 kg_sp1 79 = some (80, 0, 0, 0, 0, []) ∧ kg_lks kg_cd1 kg_sp1 80 = some (81, 3, 0, 0, 0, []) ∧ kg_lks kg_cd1 kg_sp1 81 = some (84, 22, 0, 6, 31, []) ∧ kg_lks kg_cd1 kg_sp1 84 = some (85, 0, 0, 0, 0, []) ∧ kg_lks kg_cd1 kg_sp1 85 = some (87, 0, 10, 0, 0, []) ∧ kg_lks kg_cd1 kg_sp1 87 = some (90, 47, 0, 0, 34, []) ∧ kg_lks kg_cd1 kg_sp1 90 = some (91, 49, 0, 0, 0, []) := by refine ⟨?_, ?_, ?_, ?_, ?_, ?_, ?_, ?_, ?_, ?_, ?_, ?_, ?_, ?_, ?_, ?_, ?_, ?_, ?_, ?_, ?_, ?_, ?_, ?_, ?_, ?_, ?_, ?_, ?_, ?_, ?_, ?_, ?_, ?_, ?_, ?_, ?_, ?_, ?_, ?_, ?_, ?_, ?_, ?_, ?_, ?_, ?_, ?_, ?_⟩ <;> rfl
theorem kg_v1 {G : kg_G} (hL : G.2.2.2.2.2.1 < 2 ^ 31) {d N0 NX : Nat} (hd : 1 ≤ d) {K : kg_Qt} (f : Nat) {pc : Nat} {ls : List (Option Value)} {st : List Value} {w : kg_W} {M : kg_M} (h : kg_go G NX (kg_call G d NX) (kg_ret 0 NX K) kg_cd1 kg_sp1 (kg_P G d 1 2 N0 NX K) f pc ls st w M) : kg_P G d 1 2 N0 NX K pc ls st w M := kg_vgo hL hd kg_ok1 rfl rfl rfl rfl (fun e => by cases e) h
theorem kg_m1 {G : kg_G} {d NX : Nat} {K : kg_Qt} {args : List Value} {w : kg_W} {M : kg_M} (hal : args.length ≤ 2) (hw : w.1 ≤ NX) (h : kg_P G d 1 2 w.1 NX K 0 (kg_pad 2 args) [] w M) : kg_call G (d + 1) NX 1 args w M K := kg_P_call (by omega) rfl hal hw h
def kg_sp2 : List Nat := []
set_option maxRecDepth 100000 in
theorem kg_ls2 : kg_lks kg_cd2 kg_sp2 0 = some (1, 3, 0, 0, 0, []) ∧ kg_lks kg_cd2 kg_sp2 1 = some (2, 3, 0, 0, 0, []) ∧ kg_lks kg_cd2 kg_sp2 2 = some (5, 21, 0, 1, 15, []) ∧ kg_lks kg_cd2 kg_sp2 5 = some (6, 0, 1, 0, 0, []) ∧ kg_lks kg_cd2 kg_sp2 6 = some (7, 7, 0, 0, 0, []) ∧ kg_lks kg_cd2 kg_sp2 7 = some (9, 0, 10, 0, 0, []) ∧ kg_lks kg_cd2 kg_sp2 9 = some (10, 10, 0, 0, 0, []) ∧ kg_lks kg_cd2 kg_sp2 10 = some (13, 23, 0, 1, 15, []) ∧ kg_lks kg_cd2 kg_sp2 13 = some (14, 3, 0, 0, 0, []) ∧ kg_lks kg_cd2 kg_sp2 14 = some (17, 22, 0, 3, 22, []) ∧ kg_lks kg_cd2 kg_sp2 17 = some (18, 3, 0, 0, 0, []) ∧ kg_lks kg_cd2 kg_sp2 18 = some (21, 21, 0, 1, 15, []) ∧ kg_lks kg_cd2 kg_sp2 21 = some (22, 2, 1, 0, 0, []) ∧ kg_lks kg_cd2 kg_sp2 22 = some (23, 31, 0, 0, 0, []) ∧ kg_lks kg_cd2 kg_sp2 23 = some (24, 3, 0, 0, 0, []) ∧ kg_lks kg_cd2 kg_sp2 24 = some (27, 22, 0, 4, 25, []) ∧ kg_lks kg_cd2 kg_sp2 27 = some (28, 3, 0, 0, 0, []) ∧ kg_lks kg_cd2 kg_sp2 28 = some (31, 21, 0, 1, 15, []) ∧ kg_lks kg_cd2 kg_sp2 31 = some (32, 2, 2, 0, 0, []) ∧ kg_lks kg_cd2 kg_sp2 32 = some (33, 31, 0, 0, 0, []) ∧ kg_lks kg_cd2 kg_sp2 33 = some (34, 3, 0, 0, 0, []) ∧ kg_lks kg_cd2 kg_sp2 34 = some (37, 22, 0, 5, 28, []) ∧ kg_lks kg_cd2 kg_sp2 37 = some (38, 3, 0, 0, 0, []) ∧ kg_lks kg_cd2 kg_sp2 38 = some (41, 21, 0, 1, 15, []) ∧ kg_lks kg_cd2 kg_sp2 41 = some (42, 2, 3, 0, 0, []) ∧ kg_lks kg_cd2 kg_sp2 42 = some (43, 31, 0, 0, 0, []) ∧ kg_lks kg_cd2 kg_sp2 43 = some (44, 3, 0, 0, 0, []) ∧ kg_lks kg_cd2 kg_sp2 44 = some (47, 22, 0, 6, 31, []) ∧ kg_lks kg_cd2 kg_sp2 47 = some (48, 3, 0, 0, 0, []) ∧ kg_lks kg_cd2 kg_sp2 48 = some (51, 21, 0, 1, 15, []) ∧ kg_lks kg_cd2 kg_sp2 51 = some (53, 2, 4, 0, 0, []) ∧ kg_lks kg_cd2 kg_sp2 53 = some (54, 31, 0, 0, 0, []) ∧ kg_lks kg_cd2 kg_sp2 54 = some (55, 3, 0, 0, 0, []) ∧ kg_lks kg_cd2 kg_sp2 55 = some (58, 22, 0, 2, 18, []) ∧ kg_lks kg_cd2 kg_sp2 58 = some (59, 2, 1, 0, 0, []) ∧ kg_lks kg_cd2 kg_sp2 59 = some (60, 14, 0, 0, 0, []) ∧ kg_lks kg_cd2 kg_sp2 60 = some (61, 27, 0, 0, 0, []) ∧ kg_lks kg_cd2 kg_sp2 61 = some (62, 0, 1, 0, 0, []) ∧ kg_lks kg_cd2 kg_sp2 62 = some (63, 7, 0, 0, 0, []) ∧ kg_lks kg_cd2 kg_sp2 63 = some (64, 31, 0, 0, 0, []) ∧ kg_lks kg_cd2 kg_sp2 64 = some (65, 3, 0, 0, 0, []) ∧ kg_lks kg_cd2 kg_sp2 65 = some (68, 21, 0, 0, 9, []) ∧ kg_lks kg_cd2 kg_sp2 68 = some (70, 0, 10, 0, 0, []) ∧ kg_lks kg_cd2 kg_sp2 70 = some (73, 17, 3, 83, 0, []) ∧ kg_lks kg_cd2 kg_sp2 73 = some (74, 3, 0, 0, 0, []) ∧ kg_lks kg_cd2 kg_sp2 74 = some (75, 13, 0, 0, 0, []) ∧ kg_lks kg_cd2 kg_sp2 75 = some (78, 21, 0, 0, 9, []) ∧ kg_lks kg_cd2 kg_sp2 78 = some (79, 0, 1, 0, 0, []) ∧ kg_lks kg_cd2 kg_sp2 79 = some (80, 7, 0, 0, 0, []) ∧ kg_lks kg_cd2 kg_sp2 80 = some (83, 23, 0, 0, 9, []) ∧ kg_lks kg_cd2 kg_sp2 83 = some (84, 49, 0, 0, 0, []) := by refine ⟨?_, ?_, ?_, ?_, ?_, ?_, ?_, ?_, ?_, ?_, ?_, ?_, ?_, ?_, ?_, ?_, ?_, ?_, ?_, ?_, ?_, ?_, ?_, ?_, ?_, ?_, ?_, ?_, ?_, ?_, ?_, ?_, ?_, ?_, ?_, ?_, ?_, ?_, ?_, ?_, ?_, ?_, ?_, ?_, ?_, ?_, ?_, ?_, ?_, ?_, ?_⟩ <;> rfl
theorem kg_v2 {G : kg_G} (hL : G.2.2.2.2.2.1 < 2 ^ 31) {d N0 NX : Nat} (hd : 1 ≤ d) {K : kg_Qt} (f : Nat) {pc : Nat} {ls : List (Option Value)} {st : List Value} {w : kg_W} {M : kg_M} (h : kg_go G NX (kg_call G d NX) (kg_ret 0 NX K) kg_cd2 kg_sp2 (kg_P G d 2 5 N0 NX K) f pc ls st w M) : kg_P G d 2 5 N0 NX K pc ls st w M := kg_vgo hL hd kg_ok2 rfl rfl rfl rfl (fun e => by cases e) h
theorem kg_m2 {G : kg_G} {d NX : Nat} {K : kg_Qt} {args : List Value} {w : kg_W} {M : kg_M} (hal : args.length ≤ 5) (hw : w.1 ≤ NX) (h : kg_P G d 2 5 w.1 NX K 0 (kg_pad 5 args) [] w M) : kg_call G (d + 1) NX 2 args w M K := kg_P_call (by omega) rfl hal hw h
def kg_sp4 : List Nat := []
set_option maxRecDepth 100000 in
theorem kg_ls4 : kg_lks kg_cd4 kg_sp4 0 = some (1, 3, 0, 0, 0, []) ∧ kg_lks kg_cd4 kg_sp4 1 = some (4, 44, 0, 0, 3, []) ∧ kg_lks kg_cd4 kg_sp4 4 = some (5, 3, 0, 0, 0, []) ∧ kg_lks kg_cd4 kg_sp4 5 = some (7, 0, 40, 0, 0, []) ∧ kg_lks kg_cd4 kg_sp4 7 = some (9, 37, 0, 0, 0, []) ∧ kg_lks kg_cd4 kg_sp4 9 = some (12, 25, 1, 0, 9, []) ∧ kg_lks kg_cd4 kg_sp4 12 = some (13, 3, 0, 0, 0, []) ∧ kg_lks kg_cd4 kg_sp4 13 = some (15, 0, 40, 0, 0, []) ∧ kg_lks kg_cd4 kg_sp4 15 = some (17, 37, 0, 0, 0, []) ∧ kg_lks kg_cd4 kg_sp4 17 = some (20, 25, 1, 1, 15, []) ∧ kg_lks kg_cd4 kg_sp4 20 = some (21, 3, 0, 0, 0, []) ∧ kg_lks kg_cd4 kg_sp4 21 = some (23, 0, 40, 0, 0, []) ∧ kg_lks kg_cd4 kg_sp4 23 = some (25, 37, 0, 0, 0, []) ∧ kg_lks kg_cd4 kg_sp4 25 = some (28, 25, 1, 2, 18, []) ∧ kg_lks kg_cd4 kg_sp4 28 = some (29, 3, 0, 0, 0, []) ∧ kg_lks kg_cd4 kg_sp4 29 = some (31, 0, 40, 0, 0, []) ∧ kg_lks kg_cd4 kg_sp4 31 = some (33, 37, 0, 0, 0, []) ∧ kg_lks kg_cd4 kg_sp4 33 = some (36, 25, 1, 3, 21, []) ∧ kg_lks kg_cd4 kg_sp4 36 = some (37, 49, 0, 0, 0, []) := by refine ⟨?_, ?_, ?_, ?_, ?_, ?_, ?_, ?_, ?_, ?_, ?_, ?_, ?_, ?_, ?_, ?_, ?_, ?_, ?_⟩ <;> rfl
theorem kg_v4 {G : kg_G} (hL : G.2.2.2.2.2.1 < 2 ^ 31) {d N0 NX : Nat} (hd : 1 ≤ d) {K : kg_Qt} (f : Nat) {pc : Nat} {ls : List (Option Value)} {st : List Value} {w : kg_W} {M : kg_M} (h : kg_go G NX (kg_call G d NX) (kg_ret 0 NX K) kg_cd4 kg_sp4 (kg_P G d 4 1 N0 NX K) f pc ls st w M) : kg_P G d 4 1 N0 NX K pc ls st w M := kg_vgo hL hd kg_ok4 rfl rfl rfl rfl (fun _ => rfl) h
theorem kg_m4 {G : kg_G} {d NX : Nat} {K : kg_Qt} {args : List Value} {w : kg_W} {M : kg_M} (hal : args.length ≤ 1) (hw : w.1 ≤ NX) (h : kg_P G d 4 1 w.1 NX K 0 (kg_pad 1 args) [] w M) : kg_call G (d + 1) NX 4 args w M K := kg_P_call (by omega) rfl hal hw h
def kg_sp5 : List Nat := []
set_option maxRecDepth 100000 in
theorem kg_ls5 : kg_lks kg_cd5 kg_sp5 0 = some (1, 3, 1, 0, 0, []) ∧ kg_lks kg_cd5 kg_sp5 1 = some (4, 22, 1, 0, 9, []) ∧ kg_lks kg_cd5 kg_sp5 4 = some (5, 0, 0, 0, 0, []) ∧ kg_lks kg_cd5 kg_sp5 5 = some (6, 3, 0, 0, 0, []) ∧ kg_lks kg_cd5 kg_sp5 6 = some (9, 22, 1, 0, 9, []) ∧ kg_lks kg_cd5 kg_sp5 9 = some (10, 0, 0, 0, 0, []) ∧ kg_lks kg_cd5 kg_sp5 10 = some (12, 0, 40, 0, 0, []) ∧ kg_lks kg_cd5 kg_sp5 12 = some (15, 47, 0, 0, 24, []) ∧ kg_lks kg_cd5 kg_sp5 15 = some (16, 3, 1, 0, 0, []) ∧ kg_lks kg_cd5 kg_sp5 16 = some (19, 22, 1, 1, 15, []) ∧ kg_lks kg_cd5 kg_sp5 19 = some (20, 0, 0, 0, 0, []) ∧ kg_lks kg_cd5 kg_sp5 20 = some (21, 3, 0, 0, 0, []) ∧ kg_lks kg_cd5 kg_sp5 21 = some (24, 22, 1, 1, 15, []) ∧ kg_lks kg_cd5 kg_sp5 24 = some (25, 0, 0, 0, 0, []) ∧ kg_lks kg_cd5 kg_sp5 25 = some (27, 0, 40, 0, 0, []) ∧ kg_lks kg_cd5 kg_sp5 27 = some (30, 47, 0, 0, 24, []) ∧ kg_lks kg_cd5 kg_sp5 30 = some (31, 3, 1, 0, 0, []) ∧ kg_lks kg_cd5 kg_sp5 31 = some (34, 22, 1, 2, 18, []) ∧ kg_lks kg_cd5 kg_sp5 34 = some (35, 0, 0, 0, 0, []) ∧ kg_lks kg_cd5 kg_sp5 35 = some (36, 3, 0, 0, 0, []) ∧ kg_lks kg_cd5 kg_sp5 36 = some (39, 22, 1, 2, 18, []) ∧ kg_lks kg_cd5 kg_sp5 39 = some (40, 0, 0, 0, 0, []) ∧ kg_lks kg_cd5 kg_sp5 40 = some (42, 0, 40, 0, 0, []) ∧ kg_lks kg_cd5 kg_sp5 42 = some (45, 47, 0, 0, 24, []) ∧ kg_lks kg_cd5 kg_sp5 45 = some (46, 3, 1, 0, 0, []) ∧ kg_lks kg_cd5 kg_sp5 46 = some (49, 22, 1, 3, 21, []) ∧ kg_lks kg_cd5 kg_sp5 49 = some (50, 0, 0, 0, 0, []) ∧ kg_lks kg_cd5 kg_sp5 50 = some (51, 3, 0, 0, 0, []) ∧ kg_lks kg_cd5 kg_sp5 51 = some (54, 22, 1, 3, 21, []) ∧ kg_lks kg_cd5 kg_sp5 54 = some (55, 0, 0, 0, 0, []) ∧ kg_lks kg_cd5 kg_sp5 55 = some (57, 0, 40, 0, 0, []) ∧ kg_lks kg_cd5 kg_sp5 57 = some (60, 47, 0, 0, 24, []) ∧ kg_lks kg_cd5 kg_sp5 60 = some (61, 49, 0, 0, 0, []) := by refine ⟨?_, ?_, ?_, ?_, ?_, ?_, ?_, ?_, ?_, ?_, ?_, ?_, ?_, ?_, ?_, ?_, ?_, ?_, ?_, ?_, ?_, ?_, ?_, ?_, ?_, ?_, ?_, ?_, ?_, ?_, ?_, ?_, ?_⟩ <;> rfl
theorem kg_v5 {G : kg_G} (hL : G.2.2.2.2.2.1 < 2 ^ 31) {d N0 NX : Nat} (hd : 1 ≤ d) {K : kg_Qt} (f : Nat) {pc : Nat} {ls : List (Option Value)} {st : List Value} {w : kg_W} {M : kg_M} (h : kg_go G NX (kg_call G d NX) (kg_ret 0 NX K) kg_cd5 kg_sp5 (kg_P G d 5 2 N0 NX K) f pc ls st w M) : kg_P G d 5 2 N0 NX K pc ls st w M := kg_vgo hL hd kg_ok5 rfl rfl rfl rfl (fun e => by cases e) h
theorem kg_m5 {G : kg_G} {d NX : Nat} {K : kg_Qt} {args : List Value} {w : kg_W} {M : kg_M} (hal : args.length ≤ 2) (hw : w.1 ≤ NX) (h : kg_P G d 5 2 w.1 NX K 0 (kg_pad 2 args) [] w M) : kg_call G (d + 1) NX 5 args w M K := kg_P_call (by omega) rfl hal hw h
def kg_sp6 : List Nat := []
set_option maxRecDepth 100000 in
theorem kg_ls6 : kg_lks kg_cd6 kg_sp6 0 = some (1, 3, 0, 0, 0, []) ∧ kg_lks kg_cd6 kg_sp6 1 = some (4, 22, 1, 0, 9, []) ∧ kg_lks kg_cd6 kg_sp6 4 = some (5, 2, 1, 0, 0, []) ∧ kg_lks kg_cd6 kg_sp6 5 = some (6, 2, 2, 0, 0, []) ∧ kg_lks kg_cd6 kg_sp6 6 = some (7, 31, 0, 0, 0, []) ∧ kg_lks kg_cd6 kg_sp6 7 = some (8, 3, 0, 0, 0, []) ∧ kg_lks kg_cd6 kg_sp6 8 = some (11, 22, 1, 1, 15, []) ∧ kg_lks kg_cd6 kg_sp6 11 = some (12, 2, 1, 0, 0, []) ∧ kg_lks kg_cd6 kg_sp6 12 = some (13, 2, 3, 0, 0, []) ∧ kg_lks kg_cd6 kg_sp6 13 = some (14, 31, 0, 0, 0, []) ∧ kg_lks kg_cd6 kg_sp6 14 = some (15, 3, 0, 0, 0, []) ∧ kg_lks kg_cd6 kg_sp6 15 = some (18, 22, 1, 2, 18, []) ∧ kg_lks kg_cd6 kg_sp6 18 = some (19, 2, 1, 0, 0, []) ∧ kg_lks kg_cd6 kg_sp6 19 = some (21, 2, 4, 0, 0, []) ∧ kg_lks kg_cd6 kg_sp6 21 = some (22, 31, 0, 0, 0, []) ∧ kg_lks kg_cd6 kg_sp6 22 = some (23, 3, 0, 0, 0, []) ∧ kg_lks kg_cd6 kg_sp6 23 = some (26, 22, 1, 3, 21, []) ∧ kg_lks kg_cd6 kg_sp6 26 = some (27, 2, 1, 0, 0, []) ∧ kg_lks kg_cd6 kg_sp6 27 = some (29, 2, 4, 0, 0, []) ∧ kg_lks kg_cd6 kg_sp6 29 = some (30, 31, 0, 0, 0, []) ∧ kg_lks kg_cd6 kg_sp6 30 = some (31, 49, 0, 0, 0, []) := by refine ⟨?_, ?_, ?_, ?_, ?_, ?_, ?_, ?_, ?_, ?_, ?_, ?_, ?_, ?_, ?_, ?_, ?_, ?_, ?_, ?_, ?_⟩ <;> rfl
theorem kg_v6 {G : kg_G} (hL : G.2.2.2.2.2.1 < 2 ^ 31) {d N0 NX : Nat} (hd : 1 ≤ d) {K : kg_Qt} (f : Nat) {pc : Nat} {ls : List (Option Value)} {st : List Value} {w : kg_W} {M : kg_M} (h : kg_go G NX (kg_call G d NX) (kg_ret 0 NX K) kg_cd6 kg_sp6 (kg_P G d 6 5 N0 NX K) f pc ls st w M) : kg_P G d 6 5 N0 NX K pc ls st w M := kg_vgo hL hd kg_ok6 rfl rfl rfl rfl (fun e => by cases e) h
theorem kg_m6 {G : kg_G} {d NX : Nat} {K : kg_Qt} {args : List Value} {w : kg_W} {M : kg_M} (hal : args.length ≤ 5) (hw : w.1 ≤ NX) (h : kg_P G d 6 5 w.1 NX K 0 (kg_pad 5 args) [] w M) : kg_call G (d + 1) NX 6 args w M K := kg_P_call (by omega) rfl hal hw h
def kg_sp7 : List Nat := []
set_option maxRecDepth 100000 in
theorem kg_ls7 : kg_lks kg_cd7 kg_sp7 0 = some (1, 3, 0, 0, 0, []) ∧ kg_lks kg_cd7 kg_sp7 1 = some (4, 22, 1, 0, 9, []) ∧ kg_lks kg_cd7 kg_sp7 4 = some (5, 2, 1, 0, 0, []) ∧ kg_lks kg_cd7 kg_sp7 5 = some (6, 27, 0, 0, 0, []) ∧ kg_lks kg_cd7 kg_sp7 6 = some (9, 16, 1, 11, 0, []) ∧ kg_lks kg_cd7 kg_sp7 9 = some (10, 0, 0, 0, 0, []) ∧ kg_lks kg_cd7 kg_sp7 10 = some (11, 48, 0, 0, 0, []) ∧ kg_lks kg_cd7 kg_sp7 11 = some (12, 3, 0, 0, 0, []) ∧ kg_lks kg_cd7 kg_sp7 12 = some (15, 22, 1, 1, 15, []) ∧ kg_lks kg_cd7 kg_sp7 15 = some (16, 2, 1, 0, 0, []) ∧ kg_lks kg_cd7 kg_sp7 16 = some (17, 27, 0, 0, 0, []) ∧ kg_lks kg_cd7 kg_sp7 17 = some (18, 1, 1, 0, 0, []) ∧ kg_lks kg_cd7 kg_sp7 18 = some (21, 17, 1, 25, 0, []) ∧ kg_lks kg_cd7 kg_sp7 21 = some (22, 0, 2, 0, 0, []) ∧ kg_lks kg_cd7 kg_sp7 22 = some (25, 18, 0, 26, 0, []) ∧ kg_lks kg_cd7 kg_sp7 25 = some (26, 0, 1, 0, 0, []) ∧ kg_lks kg_cd7 kg_sp7 26 = some (27, 48, 0, 0, 0, []) := by refine ⟨?_, ?_, ?_, ?_, ?_, ?_, ?_, ?_, ?_, ?_, ?_, ?_, ?_, ?_, ?_, ?_, ?_⟩ <;> rfl
theorem kg_v7 {G : kg_G} (hL : G.2.2.2.2.2.1 < 2 ^ 31) {d N0 NX : Nat} (hd : 1 ≤ d) {K : kg_Qt} (f : Nat) {pc : Nat} {ls : List (Option Value)} {st : List Value} {w : kg_W} {M : kg_M} (h : kg_go G NX (kg_call G d NX) (kg_ret 1 NX K) kg_cd7 kg_sp7 (kg_P G d 7 2 N0 NX K) f pc ls st w M) : kg_P G d 7 2 N0 NX K pc ls st w M := kg_vgo hL hd kg_ok7 rfl rfl rfl rfl (fun e => by cases e) h
theorem kg_m7 {G : kg_G} {d NX : Nat} {K : kg_Qt} {args : List Value} {w : kg_W} {M : kg_M} (hal : args.length ≤ 2) (hw : w.1 ≤ NX) (h : kg_P G d 7 2 w.1 NX K 0 (kg_pad 2 args) [] w M) : kg_call G (d + 1) NX 7 args w M K := kg_P_call (by omega) rfl hal hw h
def kg_sp8 : List Nat := []
set_option maxRecDepth 100000 in
theorem kg_ls8 : kg_lks kg_cd8 kg_sp8 0 = some (1, 3, 0, 0, 0, []) ∧ kg_lks kg_cd8 kg_sp8 1 = some (4, 22, 1, 0, 9, []) ∧ kg_lks kg_cd8 kg_sp8 4 = some (5, 2, 1, 0, 0, []) ∧ kg_lks kg_cd8 kg_sp8 5 = some (6, 3, 0, 0, 0, []) ∧ kg_lks kg_cd8 kg_sp8 6 = some (9, 22, 1, 0, 9, []) ∧ kg_lks kg_cd8 kg_sp8 9 = some (10, 2, 2, 0, 0, []) ∧ kg_lks kg_cd8 kg_sp8 10 = some (11, 27, 0, 0, 0, []) ∧ kg_lks kg_cd8 kg_sp8 11 = some (12, 31, 0, 0, 0, []) ∧ kg_lks kg_cd8 kg_sp8 12 = some (13, 3, 0, 0, 0, []) ∧ kg_lks kg_cd8 kg_sp8 13 = some (16, 22, 1, 1, 15, []) ∧ kg_lks kg_cd8 kg_sp8 16 = some (17, 2, 1, 0, 0, []) ∧ kg_lks kg_cd8 kg_sp8 17 = some (18, 3, 0, 0, 0, []) ∧ kg_lks kg_cd8 kg_sp8 18 = some (21, 22, 1, 1, 15, []) ∧ kg_lks kg_cd8 kg_sp8 21 = some (22, 2, 2, 0, 0, []) ∧ kg_lks kg_cd8 kg_sp8 22 = some (23, 27, 0, 0, 0, []) ∧ kg_lks kg_cd8 kg_sp8 23 = some (24, 31, 0, 0, 0, []) ∧ kg_lks kg_cd8 kg_sp8 24 = some (25, 3, 0, 0, 0, []) ∧ kg_lks kg_cd8 kg_sp8 25 = some (28, 22, 1, 2, 18, []) ∧ kg_lks kg_cd8 kg_sp8 28 = some (29, 2, 1, 0, 0, []) ∧ kg_lks kg_cd8 kg_sp8 29 = some (30, 3, 0, 0, 0, []) ∧ kg_lks kg_cd8 kg_sp8 30 = some (33, 22, 1, 2, 18, []) ∧ kg_lks kg_cd8 kg_sp8 33 = some (34, 2, 2, 0, 0, []) ∧ kg_lks kg_cd8 kg_sp8 34 = some (35, 27, 0, 0, 0, []) ∧ kg_lks kg_cd8 kg_sp8 35 = some (36, 31, 0, 0, 0, []) ∧ kg_lks kg_cd8 kg_sp8 36 = some (37, 3, 0, 0, 0, []) ∧ kg_lks kg_cd8 kg_sp8 37 = some (40, 22, 1, 3, 21, []) ∧ kg_lks kg_cd8 kg_sp8 40 = some (41, 2, 1, 0, 0, []) ∧ kg_lks kg_cd8 kg_sp8 41 = some (42, 2, 3, 0, 0, []) ∧ kg_lks kg_cd8 kg_sp8 42 = some (43, 31, 0, 0, 0, []) ∧ kg_lks kg_cd8 kg_sp8 43 = some (44, 49, 0, 0, 0, []) := by refine ⟨?_, ?_, ?_, ?_, ?_, ?_, ?_, ?_, ?_, ?_, ?_, ?_, ?_, ?_, ?_, ?_, ?_, ?_, ?_, ?_, ?_, ?_, ?_, ?_, ?_, ?_, ?_, ?_, ?_, ?_⟩ <;> rfl
theorem kg_v8 {G : kg_G} (hL : G.2.2.2.2.2.1 < 2 ^ 31) {d N0 NX : Nat} (hd : 1 ≤ d) {K : kg_Qt} (f : Nat) {pc : Nat} {ls : List (Option Value)} {st : List Value} {w : kg_W} {M : kg_M} (h : kg_go G NX (kg_call G d NX) (kg_ret 0 NX K) kg_cd8 kg_sp8 (kg_P G d 8 4 N0 NX K) f pc ls st w M) : kg_P G d 8 4 N0 NX K pc ls st w M := kg_vgo hL hd kg_ok8 rfl rfl rfl rfl (fun e => by cases e) h
theorem kg_m8 {G : kg_G} {d NX : Nat} {K : kg_Qt} {args : List Value} {w : kg_W} {M : kg_M} (hal : args.length ≤ 4) (hw : w.1 ≤ NX) (h : kg_P G d 8 4 w.1 NX K 0 (kg_pad 4 args) [] w M) : kg_call G (d + 1) NX 8 args w M K := kg_P_call (by omega) rfl hal hw h
def kg_sp9 : List Nat := []
set_option maxRecDepth 100000 in
theorem kg_ls9 : kg_lks kg_cd9 kg_sp9 0 = some (1, 3, 0, 0, 0, []) ∧ kg_lks kg_cd9 kg_sp9 1 = some (2, 2, 1, 0, 0, []) ∧ kg_lks kg_cd9 kg_sp9 2 = some (5, 39, 7, 2, 30, []) ∧ kg_lks kg_cd9 kg_sp9 5 = some (6, 0, 1, 0, 0, []) ∧ kg_lks kg_cd9 kg_sp9 6 = some (9, 17, 1, 18, 0, []) ∧ kg_lks kg_cd9 kg_sp9 9 = some (10, 3, 0, 0, 0, []) ∧ kg_lks kg_cd9 kg_sp9 10 = some (13, 22, 1, 1, 15, []) ∧ kg_lks kg_cd9 kg_sp9 13 = some (14, 2, 1, 0, 0, []) ∧ kg_lks kg_cd9 kg_sp9 14 = some (15, 27, 0, 0, 0, []) ∧ kg_lks kg_cd9 kg_sp9 15 = some (18, 18, 0, 20, 0, []) ∧ kg_lks kg_cd9 kg_sp9 18 = some (20, 1, 5, 0, 0, []) ∧ kg_lks kg_cd9 kg_sp9 20 = some (21, 48, 0, 0, 0, []) := by refine ⟨?_, ?_, ?_, ?_, ?_, ?_, ?_, ?_, ?_, ?_, ?_, ?_⟩ <;> rfl
theorem kg_v9 {G : kg_G} (hL : G.2.2.2.2.2.1 < 2 ^ 31) {d N0 NX : Nat} (hd : 1 ≤ d) {K : kg_Qt} (f : Nat) {pc : Nat} {ls : List (Option Value)} {st : List Value} {w : kg_W} {M : kg_M} (h : kg_go G NX (kg_call G d NX) (kg_ret 1 NX K) kg_cd9 kg_sp9 (kg_P G d 9 2 N0 NX K) f pc ls st w M) : kg_P G d 9 2 N0 NX K pc ls st w M := kg_vgo hL hd kg_ok9 rfl rfl rfl rfl (fun e => by cases e) h
theorem kg_m9 {G : kg_G} {d NX : Nat} {K : kg_Qt} {args : List Value} {w : kg_W} {M : kg_M} (hal : args.length ≤ 2) (hw : w.1 ≤ NX) (h : kg_P G d 9 2 w.1 NX K 0 (kg_pad 2 args) [] w M) : kg_call G (d + 1) NX 9 args w M K := kg_P_call (by omega) rfl hal hw h
def kg_sp10 : List Nat := []
set_option maxRecDepth 100000 in
theorem kg_ls10 : kg_lks kg_cd10 kg_sp10 0 = some (1, 3, 0, 0, 0, []) ∧ kg_lks kg_cd10 kg_sp10 1 = some (2, 2, 1, 0, 0, []) ∧ kg_lks kg_cd10 kg_sp10 2 = some (3, 0, 0, 0, 0, []) ∧ kg_lks kg_cd10 kg_sp10 3 = some (4, 0, 0, 0, 0, []) ∧ kg_lks kg_cd10 kg_sp10 4 = some (5, 0, 0, 0, 0, []) ∧ kg_lks kg_cd10 kg_sp10 5 = some (8, 39, 6, 5, 34, []) ∧ kg_lks kg_cd10 kg_sp10 8 = some (9, 49, 0, 0, 0, []) := by refine ⟨?_, ?_, ?_, ?_, ?_, ?_, ?_⟩ <;> rfl
theorem kg_v10 {G : kg_G} (hL : G.2.2.2.2.2.1 < 2 ^ 31) {d N0 NX : Nat} (hd : 1 ≤ d) {K : kg_Qt} (f : Nat) {pc : Nat} {ls : List (Option Value)} {st : List Value} {w : kg_W} {M : kg_M} (h : kg_go G NX (kg_call G d NX) (kg_ret 0 NX K) kg_cd10 kg_sp10 (kg_P G d 10 2 N0 NX K) f pc ls st w M) : kg_P G d 10 2 N0 NX K pc ls st w M := kg_vgo hL hd kg_ok10 rfl rfl rfl rfl (fun e => by cases e) h
theorem kg_m10 {G : kg_G} {d NX : Nat} {K : kg_Qt} {args : List Value} {w : kg_W} {M : kg_M} (hal : args.length ≤ 2) (hw : w.1 ≤ NX) (h : kg_P G d 10 2 w.1 NX K 0 (kg_pad 2 args) [] w M) : kg_call G (d + 1) NX 10 args w M K := kg_P_call (by omega) rfl hal hw h
def kg_sp11 : List Nat := []
set_option maxRecDepth 100000 in
theorem kg_ls11 : kg_lks kg_cd11 kg_sp11 0 = some (1, 3, 0, 0, 0, []) ∧ kg_lks kg_cd11 kg_sp11 1 = some (4, 44, 0, 0, 3, []) ∧ kg_lks kg_cd11 kg_sp11 4 = some (5, 3, 0, 0, 0, []) ∧ kg_lks kg_cd11 kg_sp11 5 = some (6, 0, 0, 0, 0, []) ∧ kg_lks kg_cd11 kg_sp11 6 = some (9, 23, 2, 0, 9, []) ∧ kg_lks kg_cd11 kg_sp11 9 = some (10, 3, 0, 0, 0, []) ∧ kg_lks kg_cd11 kg_sp11 10 = some (12, 0, 10, 0, 0, []) ∧ kg_lks kg_cd11 kg_sp11 12 = some (14, 37, 0, 0, 0, []) ∧ kg_lks kg_cd11 kg_sp11 14 = some (17, 25, 2, 1, 15, []) ∧ kg_lks kg_cd11 kg_sp11 17 = some (18, 3, 0, 0, 0, []) ∧ kg_lks kg_cd11 kg_sp11 18 = some (20, 0, 10, 0, 0, []) ∧ kg_lks kg_cd11 kg_sp11 20 = some (22, 37, 0, 0, 0, []) ∧ kg_lks kg_cd11 kg_sp11 22 = some (25, 25, 2, 2, 19, []) ∧ kg_lks kg_cd11 kg_sp11 25 = some (26, 3, 0, 0, 0, []) ∧ kg_lks kg_cd11 kg_sp11 26 = some (28, 0, 10, 0, 0, []) ∧ kg_lks kg_cd11 kg_sp11 28 = some (30, 37, 0, 0, 0, []) ∧ kg_lks kg_cd11 kg_sp11 30 = some (33, 25, 2, 3, 22, []) ∧ kg_lks kg_cd11 kg_sp11 33 = some (34, 49, 0, 0, 0, []) := by refine ⟨?_, ?_, ?_, ?_, ?_, ?_, ?_, ?_, ?_, ?_, ?_, ?_, ?_, ?_, ?_, ?_, ?_, ?_⟩ <;> rfl
theorem kg_v11 {G : kg_G} (hL : G.2.2.2.2.2.1 < 2 ^ 31) {d N0 NX : Nat} (hd : 1 ≤ d) {K : kg_Qt} (f : Nat) {pc : Nat} {ls : List (Option Value)} {st : List Value} {w : kg_W} {M : kg_M} (h : kg_go G NX (kg_call G d NX) (kg_ret 0 NX K) kg_cd11 kg_sp11 (kg_P G d 11 1 N0 NX K) f pc ls st w M) : kg_P G d 11 1 N0 NX K pc ls st w M := kg_vgo hL hd kg_ok11 rfl rfl rfl rfl (fun _ => rfl) h
theorem kg_m11 {G : kg_G} {d NX : Nat} {K : kg_Qt} {args : List Value} {w : kg_W} {M : kg_M} (hal : args.length ≤ 1) (hw : w.1 ≤ NX) (h : kg_P G d 11 1 w.1 NX K 0 (kg_pad 1 args) [] w M) : kg_call G (d + 1) NX 11 args w M K := kg_P_call (by omega) rfl hal hw h
def kg_sp12 : List Nat := []
set_option maxRecDepth 100000 in
theorem kg_ls12 : kg_lks kg_cd12 kg_sp12 0 = some (1, 3, 0, 0, 0, []) ∧ kg_lks kg_cd12 kg_sp12 1 = some (2, 3, 1, 0, 0, []) ∧ kg_lks kg_cd12 kg_sp12 2 = some (5, 21, 2, 0, 9, []) ∧ kg_lks kg_cd12 kg_sp12 5 = some (8, 23, 2, 0, 9, []) ∧ kg_lks kg_cd12 kg_sp12 8 = some (9, 3, 1, 0, 0, []) ∧ kg_lks kg_cd12 kg_sp12 9 = some (12, 22, 2, 1, 15, []) ∧ kg_lks kg_cd12 kg_sp12 12 = some (13, 0, 0, 0, 0, []) ∧ kg_lks kg_cd12 kg_sp12 13 = some (14, 3, 0, 0, 0, []) ∧ kg_lks kg_cd12 kg_sp12 14 = some (17, 22, 2, 1, 15, []) ∧ kg_lks kg_cd12 kg_sp12 17 = some (18, 0, 0, 0, 0, []) ∧ kg_lks kg_cd12 kg_sp12 18 = some (20, 0, 10, 0, 0, []) ∧ kg_lks kg_cd12 kg_sp12 20 = some (23, 47, 0, 0, 25, []) ∧ kg_lks kg_cd12 kg_sp12 23 = some (24, 3, 1, 0, 0, []) ∧ kg_lks kg_cd12 kg_sp12 24 = some (27, 22, 2, 2, 19, []) ∧ kg_lks kg_cd12 kg_sp12 27 = some (28, 0, 0, 0, 0, []) ∧ kg_lks kg_cd12 kg_sp12 28 = some (29, 3, 0, 0, 0, []) ∧ kg_lks kg_cd12 kg_sp12 29 = some (32, 22, 2, 2, 19, []) ∧ kg_lks kg_cd12 kg_sp12 32 = some (33, 0, 0, 0, 0, []) ∧ kg_lks kg_cd12 kg_sp12 33 = some (35, 0, 10, 0, 0, []) ∧ kg_lks kg_cd12 kg_sp12 35 = some (38, 47, 0, 0, 25, []) ∧ kg_lks kg_cd12 kg_sp12 38 = some (39, 3, 1, 0, 0, []) ∧ kg_lks kg_cd12 kg_sp12 39 = some (42, 22, 2, 3, 22, []) ∧ kg_lks kg_cd12 kg_sp12 42 = some (43, 0, 0, 0, 0, []) ∧ kg_lks kg_cd12 kg_sp12 43 = some (44, 3, 0, 0, 0, []) ∧ kg_lks kg_cd12 kg_sp12 44 = some (47, 22, 2, 3, 22, []) ∧ kg_lks kg_cd12 kg_sp12 47 = some (48, 0, 0, 0, 0, []) ∧ kg_lks kg_cd12 kg_sp12 48 = some (50, 0, 10, 0, 0, []) ∧ kg_lks kg_cd12 kg_sp12 50 = some (53, 47, 0, 0, 25, []) ∧ kg_lks kg_cd12 kg_sp12 53 = some (54, 49, 0, 0, 0, []) := by refine ⟨?_, ?_, ?_, ?_, ?_, ?_, ?_, ?_, ?_, ?_, ?_, ?_, ?_, ?_, ?_, ?_, ?_, ?_, ?_, ?_, ?_, ?_, ?_, ?_, ?_, ?_, ?_, ?_, ?_⟩ <;> rfl
theorem kg_v12 {G : kg_G} (hL : G.2.2.2.2.2.1 < 2 ^ 31) {d N0 NX : Nat} (hd : 1 ≤ d) {K : kg_Qt} (f : Nat) {pc : Nat} {ls : List (Option Value)} {st : List Value} {w : kg_W} {M : kg_M} (h : kg_go G NX (kg_call G d NX) (kg_ret 0 NX K) kg_cd12 kg_sp12 (kg_P G d 12 2 N0 NX K) f pc ls st w M) : kg_P G d 12 2 N0 NX K pc ls st w M := kg_vgo hL hd kg_ok12 rfl rfl rfl rfl (fun e => by cases e) h
theorem kg_m12 {G : kg_G} {d NX : Nat} {K : kg_Qt} {args : List Value} {w : kg_W} {M : kg_M} (hal : args.length ≤ 2) (hw : w.1 ≤ NX) (h : kg_P G d 12 2 w.1 NX K 0 (kg_pad 2 args) [] w M) : kg_call G (d + 1) NX 12 args w M K := kg_P_call (by omega) rfl hal hw h
def kg_sp13 : List Nat := []
set_option maxRecDepth 100000 in
theorem kg_ls13 : kg_lks kg_cd13 kg_sp13 0 = some (1, 3, 0, 0, 0, []) ∧ kg_lks kg_cd13 kg_sp13 1 = some (4, 21, 2, 0, 9, []) ∧ kg_lks kg_cd13 kg_sp13 4 = some (6, 0, 10, 0, 0, []) ∧ kg_lks kg_cd13 kg_sp13 6 = some (9, 17, 2, 10, 0, []) ∧ kg_lks kg_cd13 kg_sp13 9 = some (10, 49, 0, 0, 0, []) ∧ kg_lks kg_cd13 kg_sp13 10 = some (11, 3, 0, 0, 0, []) ∧ kg_lks kg_cd13 kg_sp13 11 = some (14, 22, 2, 1, 15, []) ∧ kg_lks kg_cd13 kg_sp13 14 = some (15, 3, 0, 0, 0, []) ∧ kg_lks kg_cd13 kg_sp13 15 = some (18, 21, 2, 0, 9, []) ∧ kg_lks kg_cd13 kg_sp13 18 = some (19, 2, 1, 0, 0, []) ∧ kg_lks kg_cd13 kg_sp13 19 = some (20, 31, 0, 0, 0, []) ∧ kg_lks kg_cd13 kg_sp13 20 = some (21, 3, 0, 0, 0, []) ∧ kg_lks kg_cd13 kg_sp13 21 = some (24, 22, 2, 2, 19, []) ∧ kg_lks kg_cd13 kg_sp13 24 = some (25, 3, 0, 0, 0, []) ∧ kg_lks kg_cd13 kg_sp13 25 = some (28, 21, 2, 0, 9, []) ∧ kg_lks kg_cd13 kg_sp13 28 = some (29, 2, 2, 0, 0, []) ∧ kg_lks kg_cd13 kg_sp13 29 = some (30, 31, 0, 0, 0, []) ∧ kg_lks kg_cd13 kg_sp13 30 = some (31, 3, 0, 0, 0, []) ∧ kg_lks kg_cd13 kg_sp13 31 = some (34, 22, 2, 3, 22, []) ∧ kg_lks kg_cd13 kg_sp13 34 = some (35, 3, 0, 0, 0, []) ∧ kg_lks kg_cd13 kg_sp13 35 = some (38, 21, 2, 0, 9, []) ∧ kg_lks kg_cd13 kg_sp13 38 = some (39, 2, 3, 0, 0, []) ∧ kg_lks kg_cd13 kg_sp13 39 = some (40, 31, 0, 0, 0, []) ∧ kg_lks kg_cd13 kg_sp13 40 = some (41, 3, 0, 0, 0, []) ∧ kg_lks kg_cd13 kg_sp13 41 = some (42, 13, 0, 0, 0, []) ∧ kg_lks kg_cd13 kg_sp13 42 = some (45, 21, 2, 0, 9, []) ∧ kg_lks kg_cd13 kg_sp13 45 = some (46, 0, 1, 0, 0, []) ∧ kg_lks kg_cd13 kg_sp13 46 = some (47, 7, 0, 0, 0, []) ∧ kg_lks kg_cd13 kg_sp13 47 = some (50, 23, 2, 0, 9, []) ∧ kg_lks kg_cd13 kg_sp13 50 = some (51, 49, 0, 0, 0, []) := by refine ⟨?_, ?_, ?_, ?_, ?_, ?_, ?_, ?_, ?_, ?_, ?_, ?_, ?_, ?_, ?_, ?_, ?_, ?_, ?_, ?_, ?_, ?_, ?_, ?_, ?_, ?_, ?_, ?_, ?_, ?_⟩ <;> rfl
theorem kg_v13 {G : kg_G} (hL : G.2.2.2.2.2.1 < 2 ^ 31) {d N0 NX : Nat} (hd : 1 ≤ d) {K : kg_Qt} (f : Nat) {pc : Nat} {ls : List (Option Value)} {st : List Value} {w : kg_W} {M : kg_M} (h : kg_go G NX (kg_call G d NX) (kg_ret 0 NX K) kg_cd13 kg_sp13 (kg_P G d 13 4 N0 NX K) f pc ls st w M) : kg_P G d 13 4 N0 NX K pc ls st w M := kg_vgo hL hd kg_ok13 rfl rfl rfl rfl (fun e => by cases e) h
theorem kg_m13 {G : kg_G} {d NX : Nat} {K : kg_Qt} {args : List Value} {w : kg_W} {M : kg_M} (hal : args.length ≤ 4) (hw : w.1 ≤ NX) (h : kg_P G d 13 4 w.1 NX K 0 (kg_pad 4 args) [] w M) : kg_call G (d + 1) NX 13 args w M K := kg_P_call (by omega) rfl hal hw h
def kg_sp14 : List Nat := []
set_option maxRecDepth 100000 in
theorem kg_ls14 : kg_lks kg_cd14 kg_sp14 0 = some (1, 3, 0, 0, 0, []) ∧ kg_lks kg_cd14 kg_sp14 1 = some (4, 44, 0, 0, 3, []) ∧ kg_lks kg_cd14 kg_sp14 4 = some (5, 3, 0, 0, 0, []) ∧ kg_lks kg_cd14 kg_sp14 5 = some (7, 0, 60, 0, 0, []) ∧ kg_lks kg_cd14 kg_sp14 7 = some (9, 37, 2, 0, 0, []) ∧ kg_lks kg_cd14 kg_sp14 9 = some (12, 25, 3, 0, 9, []) ∧ kg_lks kg_cd14 kg_sp14 12 = some (13, 3, 0, 0, 0, []) ∧ kg_lks kg_cd14 kg_sp14 13 = some (14, 0, 0, 0, 0, []) ∧ kg_lks kg_cd14 kg_sp14 14 = some (17, 23, 3, 1, 15, []) ∧ kg_lks kg_cd14 kg_sp14 17 = some (18, 49, 0, 0, 0, []) := by refine ⟨?_, ?_, ?_, ?_, ?_, ?_, ?_, ?_, ?_, ?_⟩ <;> rfl
theorem kg_v14 {G : kg_G} (hL : G.2.2.2.2.2.1 < 2 ^ 31) {d N0 NX : Nat} (hd : 1 ≤ d) {K : kg_Qt} (f : Nat) {pc : Nat} {ls : List (Option Value)} {st : List Value} {w : kg_W} {M : kg_M} (h : kg_go G NX (kg_call G d NX) (kg_ret 0 NX K) kg_cd14 kg_sp14 (kg_P G d 14 1 N0 NX K) f pc ls st w M) : kg_P G d 14 1 N0 NX K pc ls st w M := kg_vgo hL hd kg_ok14 rfl rfl rfl rfl (fun _ => rfl) h
theorem kg_m14 {G : kg_G} {d NX : Nat} {K : kg_Qt} {args : List Value} {w : kg_W} {M : kg_M} (hal : args.length ≤ 1) (hw : w.1 ≤ NX) (h : kg_P G d 14 1 w.1 NX K 0 (kg_pad 1 args) [] w M) : kg_call G (d + 1) NX 14 args w M K := kg_P_call (by omega) rfl hal hw h
def kg_sp21 : List Nat := [83, 107, 127]
set_option maxRecDepth 100000 in
theorem kg_ls21 : kg_lks kg_cd21 kg_sp21 0 = some (1, 3, 0, 0, 0, []) ∧ kg_lks kg_cd21 kg_sp21 1 = some (4, 44, 0, 0, 3, []) ∧ kg_lks kg_cd21 kg_sp21 4 = some (5, 3, 0, 0, 0, []) ∧ kg_lks kg_cd21 kg_sp21 5 = some (6, 0, 0, 0, 0, []) ∧ kg_lks kg_cd21 kg_sp21 6 = some (9, 23, 4, 0, 9, []) ∧ kg_lks kg_cd21 kg_sp21 9 = some (10, 3, 0, 0, 0, []) ∧ kg_lks kg_cd21 kg_sp21 10 = some (11, 0, 0, 0, 0, []) ∧ kg_lks kg_cd21 kg_sp21 11 = some (14, 23, 4, 1, 15, []) ∧ kg_lks kg_cd21 kg_sp21 14 = some (15, 3, 0, 0, 0, []) ∧ kg_lks kg_cd21 kg_sp21 15 = some (16, 0, 5, 0, 0, []) ∧ kg_lks kg_cd21 kg_sp21 16 = some (18, 37, 0, 0, 0, []) ∧ kg_lks kg_cd21 kg_sp21 18 = some (21, 25, 4, 2, 18, []) ∧ kg_lks kg_cd21 kg_sp21 21 = some (22, 3, 0, 0, 0, []) ∧ kg_lks kg_cd21 kg_sp21 22 = some (23, 0, 4, 0, 0, []) ∧ kg_lks kg_cd21 kg_sp21 23 = some (25, 37, 1, 0, 0, []) ∧ kg_lks kg_cd21 kg_sp21 25 = some (28, 25, 4, 3, 22, []) ∧ kg_lks kg_cd21 kg_sp21 28 = some (29, 3, 0, 0, 0, []) ∧ kg_lks kg_cd21 kg_sp21 29 = some (32, 36, 1, 0, 26, []) ∧ kg_lks kg_cd21 kg_sp21 32 = some (33, 13, 0, 0, 0, []) ∧ kg_lks kg_cd21 kg_sp21 33 = some (36, 43, 4, 0, 28, []) ∧ kg_lks kg_cd21 kg_sp21 36 = some (39, 25, 4, 4, 29, []) ∧ kg_lks kg_cd21 kg_sp21 39 = some (40, 3, 0, 0, 0, []) ∧ kg_lks kg_cd21 kg_sp21 40 = some (42, 0, 16, 0, 0, []) ∧ kg_lks kg_cd21 kg_sp21 42 = some (44, 37, 0, 0, 0, []) ∧ kg_lks kg_cd21 kg_sp21 44 = some (47, 25, 4, 5, 33, []) ∧ kg_lks kg_cd21 kg_sp21 47 = some (48, 3, 0, 0, 0, []) ∧ kg_lks kg_cd21 kg_sp21 48 = some (51, 36, 2, 0, 36, []) ∧ kg_lks kg_cd21 kg_sp21 51 = some (52, 13, 0, 0, 0, []) ∧ kg_lks kg_cd21 kg_sp21 52 = some (55, 43, 11, 0, 38, []) ∧ kg_lks kg_cd21 kg_sp21 55 = some (58, 25, 4, 6, 39, []) ∧ kg_lks kg_cd21 kg_sp21 58 = some (59, 3, 0, 0, 0, []) ∧ kg_lks kg_cd21 kg_sp21 59 = some (62, 36, 0, 0, 43, []) ∧ kg_lks kg_cd21 kg_sp21 62 = some (63, 13, 0, 0, 0, []) ∧ kg_lks kg_cd21 kg_sp21 63 = some (66, 43, 0, 0, 45, []) ∧ kg_lks kg_cd21 kg_sp21 66 = some (69, 25, 4, 7, 46, []) ∧ kg_lks kg_cd21 kg_sp21 69 = some (70, 3, 0, 0, 0, []) ∧ kg_lks kg_cd21 kg_sp21 70 = some (71, 0, 4, 0, 0, []) ∧ kg_lks kg_cd21 kg_sp21 71 = some (73, 37, 0, 0, 0, []) ∧ kg_lks kg_cd21 kg_sp21 73 = some (76, 25, 4, 8, 50, []) ∧ kg_lks kg_cd21 kg_sp21 76 = some (77, 3, 0, 0, 0, []) ∧ kg_lks kg_cd21 kg_sp21 77 = some (78, 0, 0, 0, 0, []) ∧ kg_lks kg_cd21 kg_sp21 78 = some (81, 23, 4, 9, 53, []) ∧ kg_lks kg_cd21 kg_sp21 81 = some (82, 0, 0, 0, 0, []) ∧ kg_lks kg_cd21 kg_sp21 82 = some (83, 4, 1, 0, 0, []) ∧ kg_lks kg_cd21 kg_sp21 83 = none ∧ kg_lks kg_cd21 kg_sp21 84 = some (85, 0, 5, 0, 0, []) ∧ kg_lks kg_cd21 kg_sp21 85 = some (88, 17, 3, 105, 0, []) ∧ kg_lks kg_cd21 kg_sp21 88 = some (89, 3, 0, 0, 0, []) ∧ kg_lks kg_cd21 kg_sp21 89 = some (92, 22, 4, 2, 18, []) ∧ kg_lks kg_cd21 kg_sp21 92 = some (93, 2, 1, 0, 0, []) ∧ kg_lks kg_cd21 kg_sp21 93 = some (96, 26, 1003, 0, 56, []) ∧ kg_lks kg_cd21 kg_sp21 96 = some (97, 2, 1, 0, 0, []) ∧ kg_lks kg_cd21 kg_sp21 97 = some (98, 27, 0, 0, 0, []) ∧ kg_lks kg_cd21 kg_sp21 98 = some (99, 31, 0, 0, 0, []) ∧ kg_lks kg_cd21 kg_sp21 99 = some (102, 6, 1, 1, 0, []) ∧ kg_lks kg_cd21 kg_sp21 102 = some (105, 18, 0, 83, 0, []) ∧ kg_lks kg_cd21 kg_sp21 105 = some (106, 0, 0, 0, 0, []) ∧ kg_lks kg_cd21 kg_sp21 106 = some (107, 4, 1, 0, 0, []) ∧ kg_lks kg_cd21 kg_sp21 107 = none ∧ kg_lks kg_cd21 kg_sp21 108 = some (109, 0, 4, 0, 0, []) ∧ kg_lks kg_cd21 kg_sp21 109 = some (112, 17, 3, 125, 0, []) ∧ kg_lks kg_cd21 kg_sp21 112 = some (113, 3, 0, 0, 0, []) ∧ kg_lks kg_cd21 kg_sp21 113 = some (116, 22, 4, 3, 22, []) ∧ kg_lks kg_cd21 kg_sp21 116 = some (117, 2, 1, 0, 0, []) ∧ kg_lks kg_cd21 kg_sp21 117 = some (118, 0, 1, 0, 0, []) ∧ kg_lks kg_cd21 kg_sp21 118 = some (119, 32, 0, 0, 0, []) ∧ kg_lks kg_cd21 kg_sp21 119 = some (122, 6, 1, 1, 0, []) ∧ kg_lks kg_cd21 kg_sp21 122 = some (125, 18, 0, 107, 0, []) ∧ kg_lks kg_cd21 kg_sp21 125 = some (126, 0, 0, 0, 0, []) ∧ kg_lks kg_cd21 kg_sp21 126 = some (127, 4, 1, 0, 0, []) ∧ kg_lks kg_cd21 kg_sp21 127 = none ∧ kg_lks kg_cd21 kg_sp21 128 = some (130, 0, 16, 0, 0, []) ∧ kg_lks kg_cd21 kg_sp21 130 = some (133, 17, 3, 146, 0, []) ∧ kg_lks kg_cd21 kg_sp21 133 = some (134, 3, 0, 0, 0, []) ∧ kg_lks kg_cd21 kg_sp21 134 = some (137, 22, 4, 5, 33, []) ∧ kg_lks kg_cd21 kg_sp21 137 = some (138, 2, 1, 0, 0, []) ∧ kg_lks kg_cd21 kg_sp21 138 = some (139, 1, 1, 0, 0, []) ∧ kg_lks kg_cd21 kg_sp21 139 = some (140, 31, 0, 0, 0, []) ∧ kg_lks kg_cd21 kg_sp21 140 = some (143, 6, 1, 1, 0, []) ∧ kg_lks kg_cd21 kg_sp21 143 = some (146, 18, 0, 127, 0, []) ∧ kg_lks kg_cd21 kg_sp21 146 = some (147, 49, 0, 0, 0, []) := by refine ⟨?_, ?_, ?_, ?_, ?_, ?_, ?_, ?_, ?_, ?_, ?_, ?_, ?_, ?_, ?_, ?_, ?_, ?_, ?_, ?_, ?_, ?_, ?_, ?_, ?_, ?_, ?_, ?_, ?_, ?_, ?_, ?_, ?_, ?_, ?_, ?_, ?_, ?_, ?_, ?_, ?_, ?_, ?_, ?_, ?_, ?_, ?_, ?_, ?_, ?_, ?_, ?_, ?_, ?_, ?_, ?_, ?_, ?_, ?_, ?_, ?_, ?_, ?_, ?_, ?_, ?_, ?_, ?_, ?_, ?_, ?_, ?_, ?_, ?_, ?_, ?_, ?_, ?_, ?_, ?_, ?_⟩ <;> rfl
theorem kg_v21 {G : kg_G} (hL : G.2.2.2.2.2.1 < 2 ^ 31) {d N0 NX : Nat} (hd : 1 ≤ d) {K : kg_Qt} (f : Nat) {pc : Nat} {ls : List (Option Value)} {st : List Value} {w : kg_W} {M : kg_M} (h : kg_go G NX (kg_call G d NX) (kg_ret 0 NX K) kg_cd21 kg_sp21 (kg_P G d 21 2 N0 NX K) f pc ls st w M) : kg_P G d 21 2 N0 NX K pc ls st w M := kg_vgo hL hd kg_ok21 rfl rfl rfl rfl (fun _ => rfl) h
theorem kg_m21 {G : kg_G} {d NX : Nat} {K : kg_Qt} {args : List Value} {w : kg_W} {M : kg_M} (hal : args.length ≤ 2) (hw : w.1 ≤ NX) (h : kg_P G d 21 2 w.1 NX K 0 (kg_pad 2 args) [] w M) : kg_call G (d + 1) NX 21 args w M K := kg_P_call (by omega) rfl hal hw h
def kg_sp22 : List Nat := [32]
set_option maxRecDepth 100000 in
theorem kg_ls22 : kg_lks kg_cd22 kg_sp22 0 = some (1, 3, 0, 0, 0, []) ∧ kg_lks kg_cd22 kg_sp22 1 = some (2, 3, 1, 0, 0, []) ∧ kg_lks kg_cd22 kg_sp22 2 = some (5, 21, 4, 0, 9, []) ∧ kg_lks kg_cd22 kg_sp22 5 = some (8, 23, 4, 0, 9, []) ∧ kg_lks kg_cd22 kg_sp22 8 = some (9, 3, 0, 0, 0, []) ∧ kg_lks kg_cd22 kg_sp22 9 = some (10, 3, 1, 0, 0, []) ∧ kg_lks kg_cd22 kg_sp22 10 = some (13, 21, 4, 1, 15, []) ∧ kg_lks kg_cd22 kg_sp22 13 = some (16, 23, 4, 1, 15, []) ∧ kg_lks kg_cd22 kg_sp22 16 = some (17, 3, 1, 0, 0, []) ∧ kg_lks kg_cd22 kg_sp22 17 = some (20, 22, 4, 2, 18, []) ∧ kg_lks kg_cd22 kg_sp22 20 = some (21, 0, 0, 0, 0, []) ∧ kg_lks kg_cd22 kg_sp22 21 = some (22, 3, 0, 0, 0, []) ∧ kg_lks kg_cd22 kg_sp22 22 = some (25, 22, 4, 2, 18, []) ∧ kg_lks kg_cd22 kg_sp22 25 = some (26, 0, 0, 0, 0, []) ∧ kg_lks kg_cd22 kg_sp22 26 = some (27, 0, 5, 0, 0, []) ∧ kg_lks kg_cd22 kg_sp22 27 = some (30, 47, 0, 0, 59, []) ∧ kg_lks kg_cd22 kg_sp22 30 = some (31, 0, 0, 0, 0, []) ∧ kg_lks kg_cd22 kg_sp22 31 = some (32, 4, 2, 0, 0, []) ∧ kg_lks kg_cd22 kg_sp22 32 = none ∧ kg_lks kg_cd22 kg_sp22 33 = some (34, 0, 4, 0, 0, []) ∧ kg_lks kg_cd22 kg_sp22 34 = some (37, 17, 3, 55, 0, []) ∧ kg_lks kg_cd22 kg_sp22 37 = some (38, 3, 0, 0, 0, []) ∧ kg_lks kg_cd22 kg_sp22 38 = some (41, 22, 4, 3, 22, []) ∧ kg_lks kg_cd22 kg_sp22 41 = some (42, 2, 2, 0, 0, []) ∧ kg_lks kg_cd22 kg_sp22 42 = some (43, 3, 1, 0, 0, []) ∧ kg_lks kg_cd22 kg_sp22 43 = some (46, 22, 4, 3, 22, []) ∧ kg_lks kg_cd22 kg_sp22 46 = some (47, 2, 2, 0, 0, []) ∧ kg_lks kg_cd22 kg_sp22 47 = some (48, 28, 0, 0, 0, []) ∧ kg_lks kg_cd22 kg_sp22 48 = some (49, 32, 0, 0, 0, []) ∧ kg_lks kg_cd22 kg_sp22 49 = some (52, 6, 2, 1, 0, []) ∧ kg_lks kg_cd22 kg_sp22 52 = some (55, 18, 0, 32, 0, []) ∧ kg_lks kg_cd22 kg_sp22 55 = some (56, 3, 0, 0, 0, []) ∧ kg_lks kg_cd22 kg_sp22 56 = some (59, 22, 4, 4, 29, []) ∧ kg_lks kg_cd22 kg_sp22 59 = some (60, 3, 1, 0, 0, []) ∧ kg_lks kg_cd22 kg_sp22 60 = some (63, 22, 4, 4, 29, []) ∧ kg_lks kg_cd22 kg_sp22 63 = some (66, 39, 5, 2, 65, []) ∧ kg_lks kg_cd22 kg_sp22 66 = some (67, 3, 1, 0, 0, []) ∧ kg_lks kg_cd22 kg_sp22 67 = some (70, 22, 4, 5, 33, []) ∧ kg_lks kg_cd22 kg_sp22 70 = some (71, 0, 0, 0, 0, []) ∧ kg_lks kg_cd22 kg_sp22 71 = some (72, 3, 0, 0, 0, []) ∧ kg_lks kg_cd22 kg_sp22 72 = some (75, 22, 4, 5, 33, []) ∧ kg_lks kg_cd22 kg_sp22 75 = some (76, 0, 0, 0, 0, []) ∧ kg_lks kg_cd22 kg_sp22 76 = some (78, 0, 16, 0, 0, []) ∧ kg_lks kg_cd22 kg_sp22 78 = some (81, 47, 0, 0, 59, []) ∧ kg_lks kg_cd22 kg_sp22 81 = some (82, 3, 0, 0, 0, []) ∧ kg_lks kg_cd22 kg_sp22 82 = some (85, 22, 4, 6, 39, []) ∧ kg_lks kg_cd22 kg_sp22 85 = some (86, 3, 1, 0, 0, []) ∧ kg_lks kg_cd22 kg_sp22 86 = some (89, 22, 4, 6, 39, []) ∧ kg_lks kg_cd22 kg_sp22 89 = some (92, 39, 12, 2, 69, []) ∧ kg_lks kg_cd22 kg_sp22 92 = some (93, 3, 0, 0, 0, []) ∧ kg_lks kg_cd22 kg_sp22 93 = some (96, 22, 4, 7, 46, []) ∧ kg_lks kg_cd22 kg_sp22 96 = some (97, 3, 1, 0, 0, []) ∧ kg_lks kg_cd22 kg_sp22 97 = some (100, 22, 4, 7, 46, []) ∧ kg_lks kg_cd22 kg_sp22 100 = some (103, 39, 1, 2, 72, []) ∧ kg_lks kg_cd22 kg_sp22 103 = some (104, 49, 0, 0, 0, []) := by refine ⟨?_, ?_, ?_, ?_, ?_, ?_, ?_, ?_, ?_, ?_, ?_, ?_, ?_, ?_, ?_, ?_, ?_, ?_, ?_, ?_, ?_, ?_, ?_, ?_, ?_, ?_, ?_, ?_, ?_, ?_, ?_, ?_, ?_, ?_, ?_, ?_, ?_, ?_, ?_, ?_, ?_, ?_, ?_, ?_, ?_, ?_, ?_, ?_, ?_, ?_, ?_, ?_, ?_, ?_, ?_⟩ <;> rfl
theorem kg_v22 {G : kg_G} (hL : G.2.2.2.2.2.1 < 2 ^ 31) {d N0 NX : Nat} (hd : 1 ≤ d) {K : kg_Qt} (f : Nat) {pc : Nat} {ls : List (Option Value)} {st : List Value} {w : kg_W} {M : kg_M} (h : kg_go G NX (kg_call G d NX) (kg_ret 0 NX K) kg_cd22 kg_sp22 (kg_P G d 22 3 N0 NX K) f pc ls st w M) : kg_P G d 22 3 N0 NX K pc ls st w M := kg_vgo hL hd kg_ok22 rfl rfl rfl rfl (fun e => by cases e) h
theorem kg_m22 {G : kg_G} {d NX : Nat} {K : kg_Qt} {args : List Value} {w : kg_W} {M : kg_M} (hal : args.length ≤ 3) (hw : w.1 ≤ NX) (h : kg_P G d 22 3 w.1 NX K 0 (kg_pad 3 args) [] w M) : kg_call G (d + 1) NX 22 args w M K := kg_P_call (by omega) rfl hal hw h
def kg_sp23 : List Nat := [4]
set_option maxRecDepth 100000 in
theorem kg_ls23 : kg_lks kg_cd23 kg_sp23 0 = some (1, 0, 0, 0, 0, []) ∧ kg_lks kg_cd23 kg_sp23 1 = some (2, 4, 1, 0, 0, []) ∧ kg_lks kg_cd23 kg_sp23 2 = some (3, 0, 0, 0, 0, []) ∧ kg_lks kg_cd23 kg_sp23 3 = some (4, 4, 2, 0, 0, []) ∧ kg_lks kg_cd23 kg_sp23 4 = none ∧ kg_lks kg_cd23 kg_sp23 5 = some (6, 0, 4, 0, 0, []) ∧ kg_lks kg_cd23 kg_sp23 6 = some (9, 17, 3, 27, 0, []) ∧ kg_lks kg_cd23 kg_sp23 9 = some (10, 3, 0, 0, 0, []) ∧ kg_lks kg_cd23 kg_sp23 10 = some (13, 22, 4, 3, 22, []) ∧ kg_lks kg_cd23 kg_sp23 13 = some (14, 2, 2, 0, 0, []) ∧ kg_lks kg_cd23 kg_sp23 14 = some (15, 28, 0, 0, 0, []) ∧ kg_lks kg_cd23 kg_sp23 15 = some (18, 16, 0, 21, 0, []) ∧ kg_lks kg_cd23 kg_sp23 18 = some (21, 6, 1, 1, 0, []) ∧ kg_lks kg_cd23 kg_sp23 21 = some (24, 6, 2, 1, 0, []) ∧ kg_lks kg_cd23 kg_sp23 24 = some (27, 18, 0, 4, 0, []) ∧ kg_lks kg_cd23 kg_sp23 27 = some (28, 2, 1, 0, 0, []) ∧ kg_lks kg_cd23 kg_sp23 28 = some (29, 48, 0, 0, 0, []) := by refine ⟨?_, ?_, ?_, ?_, ?_, ?_, ?_, ?_, ?_, ?_, ?_, ?_, ?_, ?_, ?_, ?_, ?_⟩ <;> rfl
theorem kg_v23 {G : kg_G} (hL : G.2.2.2.2.2.1 < 2 ^ 31) {d N0 NX : Nat} (hd : 1 ≤ d) {K : kg_Qt} (f : Nat) {pc : Nat} {ls : List (Option Value)} {st : List Value} {w : kg_W} {M : kg_M} (h : kg_go G NX (kg_call G d NX) (kg_ret 1 NX K) kg_cd23 kg_sp23 (kg_P G d 23 3 N0 NX K) f pc ls st w M) : kg_P G d 23 3 N0 NX K pc ls st w M := kg_vgo hL hd kg_ok23 rfl rfl rfl rfl (fun e => by cases e) h
theorem kg_m23 {G : kg_G} {d NX : Nat} {K : kg_Qt} {args : List Value} {w : kg_W} {M : kg_M} (hal : args.length ≤ 3) (hw : w.1 ≤ NX) (h : kg_P G d 23 3 w.1 NX K 0 (kg_pad 3 args) [] w M) : kg_call G (d + 1) NX 23 args w M K := kg_P_call (by omega) rfl hal hw h
def kg_sp24 : List Nat := [45]
set_option maxRecDepth 100000 in
theorem kg_ls24 : kg_lks kg_cd24 kg_sp24 0 = some (1, 3, 0, 0, 0, []) ∧ kg_lks kg_cd24 kg_sp24 1 = some (2, 13, 0, 0, 0, []) ∧ kg_lks kg_cd24 kg_sp24 2 = some (5, 21, 4, 1, 15, []) ∧ kg_lks kg_cd24 kg_sp24 5 = some (6, 0, 1, 0, 0, []) ∧ kg_lks kg_cd24 kg_sp24 6 = some (7, 7, 0, 0, 0, []) ∧ kg_lks kg_cd24 kg_sp24 7 = some (10, 23, 4, 1, 15, []) ∧ kg_lks kg_cd24 kg_sp24 10 = some (11, 3, 0, 0, 0, []) ∧ kg_lks kg_cd24 kg_sp24 11 = some (14, 22, 4, 4, 29, []) ∧ kg_lks kg_cd24 kg_sp24 14 = some (15, 0, 4, 0, 0, []) ∧ kg_lks kg_cd24 kg_sp24 15 = some (16, 2, 2, 0, 0, []) ∧ kg_lks kg_cd24 kg_sp24 16 = some (19, 41, 64, 2, 75, []) ∧ kg_lks kg_cd24 kg_sp24 19 = some (20, 3, 0, 0, 0, []) ∧ kg_lks kg_cd24 kg_sp24 20 = some (23, 21, 4, 1, 15, []) ∧ kg_lks kg_cd24 kg_sp24 23 = some (24, 2, 3, 0, 0, []) ∧ kg_lks kg_cd24 kg_sp24 24 = some (25, 3, 0, 0, 0, []) ∧ kg_lks kg_cd24 kg_sp24 25 = some (28, 21, 4, 0, 9, []) ∧ kg_lks kg_cd24 kg_sp24 28 = some (31, 39, 6, 5, 79, []) ∧ kg_lks kg_cd24 kg_sp24 31 = some (32, 3, 0, 0, 0, []) ∧ kg_lks kg_cd24 kg_sp24 32 = some (33, 2, 1, 0, 0, []) ∧ kg_lks kg_cd24 kg_sp24 33 = some (34, 3, 0, 0, 0, []) ∧ kg_lks kg_cd24 kg_sp24 34 = some (37, 22, 4, 2, 18, []) ∧ kg_lks kg_cd24 kg_sp24 37 = some (38, 0, 0, 0, 0, []) ∧ kg_lks kg_cd24 kg_sp24 38 = some (39, 27, 0, 0, 0, []) ∧ kg_lks kg_cd24 kg_sp24 39 = some (42, 39, 25, 3, 83, []) ∧ kg_lks kg_cd24 kg_sp24 42 = some (43, 0, 0, 0, 0, []) ∧ kg_lks kg_cd24 kg_sp24 43 = some (45, 4, 4, 0, 0, []) ∧ kg_lks kg_cd24 kg_sp24 45 = none ∧ kg_lks kg_cd24 kg_sp24 47 = some (48, 3, 0, 0, 0, []) ∧ kg_lks kg_cd24 kg_sp24 48 = some (51, 21, 4, 9, 53, []) ∧ kg_lks kg_cd24 kg_sp24 51 = some (54, 17, 3, 87, 0, []) ∧ kg_lks kg_cd24 kg_sp24 54 = some (55, 3, 0, 0, 0, []) ∧ kg_lks kg_cd24 kg_sp24 55 = some (58, 22, 4, 4, 29, []) ∧ kg_lks kg_cd24 kg_sp24 58 = some (59, 3, 0, 0, 0, []) ∧ kg_lks kg_cd24 kg_sp24 59 = some (62, 22, 4, 8, 50, []) ∧ kg_lks kg_cd24 kg_sp24 62 = some (64, 2, 4, 0, 0, []) ∧ kg_lks kg_cd24 kg_sp24 64 = some (65, 27, 0, 0, 0, []) ∧ kg_lks kg_cd24 kg_sp24 65 = some (66, 2, 2, 0, 0, []) ∧ kg_lks kg_cd24 kg_sp24 66 = some (69, 41, 64, 2, 75, []) ∧ kg_lks kg_cd24 kg_sp24 69 = some (70, 3, 0, 0, 0, []) ∧ kg_lks kg_cd24 kg_sp24 70 = some (73, 21, 4, 1, 15, []) ∧ kg_lks kg_cd24 kg_sp24 73 = some (74, 2, 3, 0, 0, []) ∧ kg_lks kg_cd24 kg_sp24 74 = some (75, 3, 0, 0, 0, []) ∧ kg_lks kg_cd24 kg_sp24 75 = some (78, 21, 4, 0, 9, []) ∧ kg_lks kg_cd24 kg_sp24 78 = some (81, 39, 6, 5, 79, []) ∧ kg_lks kg_cd24 kg_sp24 81 = some (84, 6, 4, 1, 0, []) ∧ kg_lks kg_cd24 kg_sp24 84 = some (87, 18, 0, 45, 0, []) ∧ kg_lks kg_cd24 kg_sp24 87 = some (88, 3, 0, 0, 0, []) ∧ kg_lks kg_cd24 kg_sp24 88 = some (91, 21, 4, 9, 53, []) ∧ kg_lks kg_cd24 kg_sp24 91 = some (92, 48, 0, 0, 0, []) := by refine ⟨?_, ?_, ?_, ?_, ?_, ?_, ?_, ?_, ?_, ?_, ?_, ?_, ?_, ?_, ?_, ?_, ?_, ?_, ?_, ?_, ?_, ?_, ?_, ?_, ?_, ?_, ?_, ?_, ?_, ?_, ?_, ?_, ?_, ?_, ?_, ?_, ?_, ?_, ?_, ?_, ?_, ?_, ?_, ?_, ?_, ?_, ?_, ?_, ?_⟩ <;> rfl
theorem kg_v24 {G : kg_G} (hL : G.2.2.2.2.2.1 < 2 ^ 31) {d N0 NX : Nat} (hd : 1 ≤ d) {K : kg_Qt} (f : Nat) {pc : Nat} {ls : List (Option Value)} {st : List Value} {w : kg_W} {M : kg_M} (h : kg_go G NX (kg_call G d NX) (kg_ret 1 NX K) kg_cd24 kg_sp24 (kg_P G d 24 5 N0 NX K) f pc ls st w M) : kg_P G d 24 5 N0 NX K pc ls st w M := kg_vgo hL hd kg_ok24 rfl rfl rfl rfl (fun e => by cases e) h
theorem kg_m24 {G : kg_G} {d NX : Nat} {K : kg_Qt} {args : List Value} {w : kg_W} {M : kg_M} (hal : args.length ≤ 5) (hw : w.1 ≤ NX) (h : kg_P G d 24 5 w.1 NX K 0 (kg_pad 5 args) [] w M) : kg_call G (d + 1) NX 24 args w M K := kg_P_call (by omega) rfl hal hw h
def kg_sp25 : List Nat := [7]
set_option maxRecDepth 100000 in
theorem kg_ls25 : kg_lks kg_cd25 kg_sp25 0 = some (1, 3, 0, 0, 0, []) ∧ kg_lks kg_cd25 kg_sp25 1 = some (2, 0, 0, 0, 0, []) ∧ kg_lks kg_cd25 kg_sp25 2 = some (5, 23, 4, 9, 53, []) ∧ kg_lks kg_cd25 kg_sp25 5 = some (6, 0, 0, 0, 0, []) ∧ kg_lks kg_cd25 kg_sp25 6 = some (7, 4, 3, 0, 0, []) ∧ kg_lks kg_cd25 kg_sp25 7 = none ∧ kg_lks kg_cd25 kg_sp25 8 = some (9, 0, 4, 0, 0, []) ∧ kg_lks kg_cd25 kg_sp25 9 = some (12, 17, 3, 64, 0, []) ∧ kg_lks kg_cd25 kg_sp25 12 = some (13, 2, 1, 0, 0, []) ∧ kg_lks kg_cd25 kg_sp25 13 = some (14, 2, 3, 0, 0, []) ∧ kg_lks kg_cd25 kg_sp25 14 = some (15, 7, 0, 0, 0, []) ∧ kg_lks kg_cd25 kg_sp25 15 = some (16, 0, 4, 0, 0, []) ∧ kg_lks kg_cd25 kg_sp25 16 = some (17, 10, 0, 0, 0, []) ∧ kg_lks kg_cd25 kg_sp25 17 = some (19, 4, 4, 0, 0, []) ∧ kg_lks kg_cd25 kg_sp25 19 = some (20, 3, 0, 0, 0, []) ∧ kg_lks kg_cd25 kg_sp25 20 = some (23, 22, 4, 3, 22, []) ∧ kg_lks kg_cd25 kg_sp25 23 = some (25, 2, 4, 0, 0, []) ∧ kg_lks kg_cd25 kg_sp25 25 = some (26, 28, 0, 0, 0, []) ∧ kg_lks kg_cd25 kg_sp25 26 = some (29, 16, 0, 58, 0, []) ∧ kg_lks kg_cd25 kg_sp25 29 = some (30, 3, 0, 0, 0, []) ∧ kg_lks kg_cd25 kg_sp25 30 = some (33, 21, 4, 9, 53, []) ∧ kg_lks kg_cd25 kg_sp25 33 = some (34, 2, 2, 0, 0, []) ∧ kg_lks kg_cd25 kg_sp25 34 = some (37, 17, 3, 58, 0, []) ∧ kg_lks kg_cd25 kg_sp25 37 = some (38, 3, 0, 0, 0, []) ∧ kg_lks kg_cd25 kg_sp25 38 = some (41, 22, 4, 8, 50, []) ∧ kg_lks kg_cd25 kg_sp25 41 = some (42, 3, 0, 0, 0, []) ∧ kg_lks kg_cd25 kg_sp25 42 = some (45, 21, 4, 9, 53, []) ∧ kg_lks kg_cd25 kg_sp25 45 = some (47, 2, 4, 0, 0, []) ∧ kg_lks kg_cd25 kg_sp25 47 = some (48, 31, 0, 0, 0, []) ∧ kg_lks kg_cd25 kg_sp25 48 = some (49, 3, 0, 0, 0, []) ∧ kg_lks kg_cd25 kg_sp25 49 = some (50, 13, 0, 0, 0, []) ∧ kg_lks kg_cd25 kg_sp25 50 = some (53, 21, 4, 9, 53, []) ∧ kg_lks kg_cd25 kg_sp25 53 = some (54, 0, 1, 0, 0, []) ∧ kg_lks kg_cd25 kg_sp25 54 = some (55, 7, 0, 0, 0, []) ∧ kg_lks kg_cd25 kg_sp25 55 = some (58, 23, 4, 9, 53, []) ∧ kg_lks kg_cd25 kg_sp25 58 = some (61, 6, 3, 1, 0, []) ∧ kg_lks kg_cd25 kg_sp25 61 = some (64, 18, 0, 7, 0, []) ∧ kg_lks kg_cd25 kg_sp25 64 = some (65, 49, 0, 0, 0, []) := by refine ⟨?_, ?_, ?_, ?_, ?_, ?_, ?_, ?_, ?_, ?_, ?_, ?_, ?_, ?_, ?_, ?_, ?_, ?_, ?_, ?_, ?_, ?_, ?_, ?_, ?_, ?_, ?_, ?_, ?_, ?_, ?_, ?_, ?_, ?_, ?_, ?_, ?_, ?_⟩ <;> rfl
theorem kg_v25 {G : kg_G} (hL : G.2.2.2.2.2.1 < 2 ^ 31) {d N0 NX : Nat} (hd : 1 ≤ d) {K : kg_Qt} (f : Nat) {pc : Nat} {ls : List (Option Value)} {st : List Value} {w : kg_W} {M : kg_M} (h : kg_go G NX (kg_call G d NX) (kg_ret 0 NX K) kg_cd25 kg_sp25 (kg_P G d 25 5 N0 NX K) f pc ls st w M) : kg_P G d 25 5 N0 NX K pc ls st w M := kg_vgo hL hd kg_ok25 rfl rfl rfl rfl (fun e => by cases e) h
theorem kg_m25 {G : kg_G} {d NX : Nat} {K : kg_Qt} {args : List Value} {w : kg_W} {M : kg_M} (hal : args.length ≤ 5) (hw : w.1 ≤ NX) (h : kg_P G d 25 5 w.1 NX K 0 (kg_pad 5 args) [] w M) : kg_call G (d + 1) NX 25 args w M K := kg_P_call (by omega) rfl hal hw h
def kg_sp26 : List Nat := [16]
set_option maxRecDepth 100000 in
theorem kg_ls26 : kg_lks kg_cd26 kg_sp26 0 = some (1, 3, 0, 0, 0, []) ∧ kg_lks kg_cd26 kg_sp26 1 = some (2, 2, 1, 0, 0, []) ∧ kg_lks kg_cd26 kg_sp26 2 = some (3, 3, 0, 0, 0, []) ∧ kg_lks kg_cd26 kg_sp26 3 = some (6, 22, 4, 2, 18, []) ∧ kg_lks kg_cd26 kg_sp26 6 = some (7, 0, 1, 0, 0, []) ∧ kg_lks kg_cd26 kg_sp26 7 = some (8, 27, 0, 0, 0, []) ∧ kg_lks kg_cd26 kg_sp26 8 = some (11, 39, 25, 3, 83, []) ∧ kg_lks kg_cd26 kg_sp26 11 = some (12, 2, 1, 0, 0, []) ∧ kg_lks kg_cd26 kg_sp26 12 = some (13, 4, 3, 0, 0, []) ∧ kg_lks kg_cd26 kg_sp26 13 = some (14, 0, 0, 0, 0, []) ∧ kg_lks kg_cd26 kg_sp26 14 = some (16, 4, 4, 0, 0, []) ∧ kg_lks kg_cd26 kg_sp26 16 = none ∧ kg_lks kg_cd26 kg_sp26 18 = some (19, 3, 0, 0, 0, []) ∧ kg_lks kg_cd26 kg_sp26 19 = some (22, 21, 4, 9, 53, []) ∧ kg_lks kg_cd26 kg_sp26 22 = some (25, 17, 3, 60, 0, []) ∧ kg_lks kg_cd26 kg_sp26 25 = some (26, 3, 0, 0, 0, []) ∧ kg_lks kg_cd26 kg_sp26 26 = some (27, 3, 0, 0, 0, []) ∧ kg_lks kg_cd26 kg_sp26 27 = some (30, 22, 4, 8, 50, []) ∧ kg_lks kg_cd26 kg_sp26 30 = some (32, 2, 4, 0, 0, []) ∧ kg_lks kg_cd26 kg_sp26 32 = some (33, 27, 0, 0, 0, []) ∧ kg_lks kg_cd26 kg_sp26 33 = some (34, 2, 2, 0, 0, []) ∧ kg_lks kg_cd26 kg_sp26 34 = some (37, 39, 27, 3, 87, []) ∧ kg_lks kg_cd26 kg_sp26 37 = some (38, 3, 0, 0, 0, []) ∧ kg_lks kg_cd26 kg_sp26 38 = some (39, 2, 3, 0, 0, []) ∧ kg_lks kg_cd26 kg_sp26 39 = some (40, 2, 2, 0, 0, []) ∧ kg_lks kg_cd26 kg_sp26 40 = some (43, 39, 27, 3, 87, []) ∧ kg_lks kg_cd26 kg_sp26 43 = some (46, 17, 5, 54, 0, []) ∧ kg_lks kg_cd26 kg_sp26 46 = some (47, 3, 0, 0, 0, []) ∧ kg_lks kg_cd26 kg_sp26 47 = some (50, 22, 4, 8, 50, []) ∧ kg_lks kg_cd26 kg_sp26 50 = some (52, 2, 4, 0, 0, []) ∧ kg_lks kg_cd26 kg_sp26 52 = some (53, 27, 0, 0, 0, []) ∧ kg_lks kg_cd26 kg_sp26 53 = some (54, 4, 3, 0, 0, []) ∧ kg_lks kg_cd26 kg_sp26 54 = some (57, 6, 4, 1, 0, []) ∧ kg_lks kg_cd26 kg_sp26 57 = some (60, 18, 0, 16, 0, []) ∧ kg_lks kg_cd26 kg_sp26 60 = some (61, 2, 3, 0, 0, []) ∧ kg_lks kg_cd26 kg_sp26 61 = some (62, 48, 0, 0, 0, []) := by refine ⟨?_, ?_, ?_, ?_, ?_, ?_, ?_, ?_, ?_, ?_, ?_, ?_, ?_, ?_, ?_, ?_, ?_, ?_, ?_, ?_, ?_, ?_, ?_, ?_, ?_, ?_, ?_, ?_, ?_, ?_, ?_, ?_, ?_, ?_, ?_, ?_⟩ <;> rfl
theorem kg_v26 {G : kg_G} (hL : G.2.2.2.2.2.1 < 2 ^ 31) {d N0 NX : Nat} (hd : 1 ≤ d) {K : kg_Qt} (f : Nat) {pc : Nat} {ls : List (Option Value)} {st : List Value} {w : kg_W} {M : kg_M} (h : kg_go G NX (kg_call G d NX) (kg_ret 1 NX K) kg_cd26 kg_sp26 (kg_P G d 26 5 N0 NX K) f pc ls st w M) : kg_P G d 26 5 N0 NX K pc ls st w M := kg_vgo hL hd kg_ok26 rfl rfl rfl rfl (fun e => by cases e) h
theorem kg_m26 {G : kg_G} {d NX : Nat} {K : kg_Qt} {args : List Value} {w : kg_W} {M : kg_M} (hal : args.length ≤ 5) (hw : w.1 ≤ NX) (h : kg_P G d 26 5 w.1 NX K 0 (kg_pad 5 args) [] w M) : kg_call G (d + 1) NX 26 args w M K := kg_P_call (by omega) rfl hal hw h
def kg_sp27 : List Nat := []
set_option maxRecDepth 100000 in
theorem kg_ls27 : kg_lks kg_cd27 kg_sp27 0 = some (1, 3, 0, 0, 0, []) ∧ kg_lks kg_cd27 kg_sp27 1 = some (4, 22, 4, 4, 29, []) ∧ kg_lks kg_cd27 kg_sp27 4 = some (7, 22, 1, 0, 94, []) ∧ kg_lks kg_cd27 kg_sp27 7 = some (8, 2, 1, 0, 0, []) ∧ kg_lks kg_cd27 kg_sp27 8 = some (9, 2, 2, 0, 0, []) ∧ kg_lks kg_cd27 kg_sp27 9 = some (12, 41, 64, 2, 75, []) ∧ kg_lks kg_cd27 kg_sp27 12 = some (13, 27, 0, 0, 0, []) ∧ kg_lks kg_cd27 kg_sp27 13 = some (14, 48, 0, 0, 0, []) := by refine ⟨?_, ?_, ?_, ?_, ?_, ?_, ?_, ?_⟩ <;> rfl
theorem kg_v27 {G : kg_G} (hL : G.2.2.2.2.2.1 < 2 ^ 31) {d N0 NX : Nat} (hd : 1 ≤ d) {K : kg_Qt} (f : Nat) {pc : Nat} {ls : List (Option Value)} {st : List Value} {w : kg_W} {M : kg_M} (h : kg_go G NX (kg_call G d NX) (kg_ret 1 NX K) kg_cd27 kg_sp27 (kg_P G d 27 3 N0 NX K) f pc ls st w M) : kg_P G d 27 3 N0 NX K pc ls st w M := kg_vgo hL hd kg_ok27 rfl rfl rfl rfl (fun e => by cases e) h
theorem kg_m27 {G : kg_G} {d NX : Nat} {K : kg_Qt} {args : List Value} {w : kg_W} {M : kg_M} (hal : args.length ≤ 3) (hw : w.1 ≤ NX) (h : kg_P G d 27 3 w.1 NX K 0 (kg_pad 3 args) [] w M) : kg_call G (d + 1) NX 27 args w M K := kg_P_call (by omega) rfl hal hw h
def kg_sp28 : List Nat := [2]
set_option maxRecDepth 100000 in
theorem kg_ls28 : kg_lks kg_cd28 kg_sp28 0 = some (1, 0, 0, 0, 0, []) ∧ kg_lks kg_cd28 kg_sp28 1 = some (2, 4, 3, 0, 0, []) ∧ kg_lks kg_cd28 kg_sp28 2 = none ∧ kg_lks kg_cd28 kg_sp28 3 = some (4, 3, 0, 0, 0, []) ∧ kg_lks kg_cd28 kg_sp28 4 = some (7, 21, 4, 9, 53, []) ∧ kg_lks kg_cd28 kg_sp28 7 = some (10, 17, 3, 38, 0, []) ∧ kg_lks kg_cd28 kg_sp28 10 = some (11, 3, 0, 0, 0, []) ∧ kg_lks kg_cd28 kg_sp28 11 = some (12, 3, 0, 0, 0, []) ∧ kg_lks kg_cd28 kg_sp28 12 = some (15, 22, 4, 8, 50, []) ∧ kg_lks kg_cd28 kg_sp28 15 = some (16, 2, 3, 0, 0, []) ∧ kg_lks kg_cd28 kg_sp28 16 = some (17, 27, 0, 0, 0, []) ∧ kg_lks kg_cd28 kg_sp28 17 = some (18, 2, 2, 0, 0, []) ∧ kg_lks kg_cd28 kg_sp28 18 = some (21, 39, 27, 3, 87, []) ∧ kg_lks kg_cd28 kg_sp28 21 = some (22, 3, 0, 0, 0, []) ∧ kg_lks kg_cd28 kg_sp28 22 = some (23, 2, 1, 0, 0, []) ∧ kg_lks kg_cd28 kg_sp28 23 = some (24, 2, 2, 0, 0, []) ∧ kg_lks kg_cd28 kg_sp28 24 = some (27, 39, 27, 3, 87, []) ∧ kg_lks kg_cd28 kg_sp28 27 = some (30, 17, 0, 32, 0, []) ∧ kg_lks kg_cd28 kg_sp28 30 = some (31, 0, 1, 0, 0, []) ∧ kg_lks kg_cd28 kg_sp28 31 = some (32, 48, 0, 0, 0, []) ∧ kg_lks kg_cd28 kg_sp28 32 = some (35, 6, 3, 1, 0, []) ∧ kg_lks kg_cd28 kg_sp28 35 = some (38, 18, 0, 2, 0, []) ∧ kg_lks kg_cd28 kg_sp28 38 = some (39, 0, 0, 0, 0, []) ∧ kg_lks kg_cd28 kg_sp28 39 = some (40, 48, 0, 0, 0, []) := by refine ⟨?_, ?_, ?_, ?_, ?_, ?_, ?_, ?_, ?_, ?_, ?_, ?_, ?_, ?_, ?_, ?_, ?_, ?_, ?_, ?_, ?_, ?_, ?_, ?_⟩ <;> rfl
theorem kg_v28 {G : kg_G} (hL : G.2.2.2.2.2.1 < 2 ^ 31) {d N0 NX : Nat} (hd : 1 ≤ d) {K : kg_Qt} (f : Nat) {pc : Nat} {ls : List (Option Value)} {st : List Value} {w : kg_W} {M : kg_M} (h : kg_go G NX (kg_call G d NX) (kg_ret 2 NX K) kg_cd28 kg_sp28 (kg_P G d 28 4 N0 NX K) f pc ls st w M) : kg_P G d 28 4 N0 NX K pc ls st w M := kg_vgo hL hd kg_ok28 rfl rfl rfl rfl (fun e => by cases e) h
theorem kg_m28 {G : kg_G} {d NX : Nat} {K : kg_Qt} {args : List Value} {w : kg_W} {M : kg_M} (hal : args.length ≤ 4) (hw : w.1 ≤ NX) (h : kg_P G d 28 4 w.1 NX K 0 (kg_pad 4 args) [] w M) : kg_call G (d + 1) NX 28 args w M K := kg_P_call (by omega) rfl hal hw h
def kg_sp29 : List Nat := [2]
set_option maxRecDepth 100000 in
theorem kg_ls29 : kg_lks kg_cd29 kg_sp29 0 = some (1, 0, 0, 0, 0, []) ∧ kg_lks kg_cd29 kg_sp29 1 = some (2, 4, 3, 0, 0, []) ∧ kg_lks kg_cd29 kg_sp29 2 = none ∧ kg_lks kg_cd29 kg_sp29 3 = some (4, 3, 0, 0, 0, []) ∧ kg_lks kg_cd29 kg_sp29 4 = some (7, 21, 4, 9, 53, []) ∧ kg_lks kg_cd29 kg_sp29 7 = some (10, 17, 3, 28, 0, []) ∧ kg_lks kg_cd29 kg_sp29 10 = some (11, 3, 0, 0, 0, []) ∧ kg_lks kg_cd29 kg_sp29 11 = some (12, 3, 0, 0, 0, []) ∧ kg_lks kg_cd29 kg_sp29 12 = some (15, 22, 4, 8, 50, []) ∧ kg_lks kg_cd29 kg_sp29 15 = some (16, 2, 3, 0, 0, []) ∧ kg_lks kg_cd29 kg_sp29 16 = some (17, 27, 0, 0, 0, []) ∧ kg_lks kg_cd29 kg_sp29 17 = some (18, 2, 1, 0, 0, []) ∧ kg_lks kg_cd29 kg_sp29 18 = some (19, 2, 2, 0, 0, []) ∧ kg_lks kg_cd29 kg_sp29 19 = some (22, 39, 30, 4, 90, []) ∧ kg_lks kg_cd29 kg_sp29 22 = some (25, 6, 3, 1, 0, []) ∧ kg_lks kg_cd29 kg_sp29 25 = some (28, 18, 0, 2, 0, []) ∧ kg_lks kg_cd29 kg_sp29 28 = some (29, 49, 0, 0, 0, []) := by refine ⟨?_, ?_, ?_, ?_, ?_, ?_, ?_, ?_, ?_, ?_, ?_, ?_, ?_, ?_, ?_, ?_, ?_⟩ <;> rfl
theorem kg_v29 {G : kg_G} (hL : G.2.2.2.2.2.1 < 2 ^ 31) {d N0 NX : Nat} (hd : 1 ≤ d) {K : kg_Qt} (f : Nat) {pc : Nat} {ls : List (Option Value)} {st : List Value} {w : kg_W} {M : kg_M} (h : kg_go G NX (kg_call G d NX) (kg_ret 0 NX K) kg_cd29 kg_sp29 (kg_P G d 29 4 N0 NX K) f pc ls st w M) : kg_P G d 29 4 N0 NX K pc ls st w M := kg_vgo hL hd kg_ok29 rfl rfl rfl rfl (fun e => by cases e) h
theorem kg_m29 {G : kg_G} {d NX : Nat} {K : kg_Qt} {args : List Value} {w : kg_W} {M : kg_M} (hal : args.length ≤ 4) (hw : w.1 ≤ NX) (h : kg_P G d 29 4 w.1 NX K 0 (kg_pad 4 args) [] w M) : kg_call G (d + 1) NX 29 args w M K := kg_P_call (by omega) rfl hal hw h
def kg_sp30 : List Nat := []
set_option maxRecDepth 100000 in
theorem kg_ls30 : kg_lks kg_cd30 kg_sp30 0 = some (1, 3, 0, 0, 0, []) ∧ kg_lks kg_cd30 kg_sp30 1 = some (2, 2, 1, 0, 0, []) ∧ kg_lks kg_cd30 kg_sp30 2 = some (3, 2, 3, 0, 0, []) ∧ kg_lks kg_cd30 kg_sp30 3 = some (6, 39, 27, 3, 87, []) ∧ kg_lks kg_cd30 kg_sp30 6 = some (7, 3, 0, 0, 0, []) ∧ kg_lks kg_cd30 kg_sp30 7 = some (8, 2, 2, 0, 0, []) ∧ kg_lks kg_cd30 kg_sp30 8 = some (9, 2, 3, 0, 0, []) ∧ kg_lks kg_cd30 kg_sp30 9 = some (12, 39, 27, 3, 87, []) ∧ kg_lks kg_cd30 kg_sp30 12 = some (15, 17, 1, 16, 0, []) ∧ kg_lks kg_cd30 kg_sp30 15 = some (16, 49, 0, 0, 0, []) ∧ kg_lks kg_cd30 kg_sp30 16 = some (17, 3, 0, 0, 0, []) ∧ kg_lks kg_cd30 kg_sp30 17 = some (18, 2, 1, 0, 0, []) ∧ kg_lks kg_cd30 kg_sp30 18 = some (19, 2, 3, 0, 0, []) ∧ kg_lks kg_cd30 kg_sp30 19 = some (22, 39, 31, 3, 97, []) ∧ kg_lks kg_cd30 kg_sp30 22 = some (24, 4, 4, 0, 0, []) ∧ kg_lks kg_cd30 kg_sp30 24 = some (25, 3, 0, 0, 0, []) ∧ kg_lks kg_cd30 kg_sp30 25 = some (28, 22, 4, 4, 29, []) ∧ kg_lks kg_cd30 kg_sp30 28 = some (29, 2, 1, 0, 0, []) ∧ kg_lks kg_cd30 kg_sp30 29 = some (30, 2, 3, 0, 0, []) ∧ kg_lks kg_cd30 kg_sp30 30 = some (33, 41, 64, 2, 75, []) ∧ kg_lks kg_cd30 kg_sp30 33 = some (34, 2, 2, 0, 0, []) ∧ kg_lks kg_cd30 kg_sp30 34 = some (35, 2, 3, 0, 0, []) ∧ kg_lks kg_cd30 kg_sp30 35 = some (38, 41, 64, 2, 75, []) ∧ kg_lks kg_cd30 kg_sp30 38 = some (39, 3, 0, 0, 0, []) ∧ kg_lks kg_cd30 kg_sp30 39 = some (42, 21, 4, 0, 9, []) ∧ kg_lks kg_cd30 kg_sp30 42 = some (45, 39, 8, 4, 101, []) ∧ kg_lks kg_cd30 kg_sp30 45 = some (47, 2, 4, 0, 0, []) ∧ kg_lks kg_cd30 kg_sp30 47 = some (50, 16, 1, 73, 0, []) ∧ kg_lks kg_cd30 kg_sp30 50 = some (51, 3, 0, 0, 0, []) ∧ kg_lks kg_cd30 kg_sp30 51 = some (52, 2, 1, 0, 0, []) ∧ kg_lks kg_cd30 kg_sp30 52 = some (53, 2, 3, 0, 0, []) ∧ kg_lks kg_cd30 kg_sp30 53 = some (56, 39, 31, 3, 97, []) ∧ kg_lks kg_cd30 kg_sp30 56 = some (59, 16, 0, 73, 0, []) ∧ kg_lks kg_cd30 kg_sp30 59 = some (60, 3, 0, 0, 0, []) ∧ kg_lks kg_cd30 kg_sp30 60 = some (63, 22, 4, 7, 46, []) ∧ kg_lks kg_cd30 kg_sp30 63 = some (64, 0, 2, 0, 0, []) ∧ kg_lks kg_cd30 kg_sp30 64 = some (65, 3, 0, 0, 0, []) ∧ kg_lks kg_cd30 kg_sp30 65 = some (68, 21, 4, 0, 9, []) ∧ kg_lks kg_cd30 kg_sp30 68 = some (69, 2, 1, 0, 0, []) ∧ kg_lks kg_cd30 kg_sp30 69 = some (70, 2, 3, 0, 0, []) ∧ kg_lks kg_cd30 kg_sp30 70 = some (73, 39, 2, 5, 104, []) ∧ kg_lks kg_cd30 kg_sp30 73 = some (74, 49, 0, 0, 0, []) := by refine ⟨?_, ?_, ?_, ?_, ?_, ?_, ?_, ?_, ?_, ?_, ?_, ?_, ?_, ?_, ?_, ?_, ?_, ?_, ?_, ?_, ?_, ?_, ?_, ?_, ?_, ?_, ?_, ?_, ?_, ?_, ?_, ?_, ?_, ?_, ?_, ?_, ?_, ?_, ?_, ?_, ?_, ?_⟩ <;> rfl
theorem kg_v30 {G : kg_G} (hL : G.2.2.2.2.2.1 < 2 ^ 31) {d N0 NX : Nat} (hd : 1 ≤ d) {K : kg_Qt} (f : Nat) {pc : Nat} {ls : List (Option Value)} {st : List Value} {w : kg_W} {M : kg_M} (h : kg_go G NX (kg_call G d NX) (kg_ret 0 NX K) kg_cd30 kg_sp30 (kg_P G d 30 5 N0 NX K) f pc ls st w M) : kg_P G d 30 5 N0 NX K pc ls st w M := kg_vgo hL hd kg_ok30 rfl rfl rfl rfl (fun e => by cases e) h
theorem kg_m30 {G : kg_G} {d NX : Nat} {K : kg_Qt} {args : List Value} {w : kg_W} {M : kg_M} (hal : args.length ≤ 5) (hw : w.1 ≤ NX) (h : kg_P G d 30 5 w.1 NX K 0 (kg_pad 5 args) [] w M) : kg_call G (d + 1) NX 30 args w M K := kg_P_call (by omega) rfl hal hw h
def kg_sp31 : List Nat := []
set_option maxRecDepth 100000 in
theorem kg_ls31 : kg_lks kg_cd31 kg_sp31 0 = some (1, 3, 0, 0, 0, []) ∧ kg_lks kg_cd31 kg_sp31 1 = some (4, 22, 4, 4, 29, []) ∧ kg_lks kg_cd31 kg_sp31 4 = some (5, 2, 1, 0, 0, []) ∧ kg_lks kg_cd31 kg_sp31 5 = some (6, 2, 2, 0, 0, []) ∧ kg_lks kg_cd31 kg_sp31 6 = some (9, 41, 64, 2, 75, []) ∧ kg_lks kg_cd31 kg_sp31 9 = some (12, 39, 7, 2, 139, []) ∧ kg_lks kg_cd31 kg_sp31 12 = some (13, 0, 1, 0, 0, []) ∧ kg_lks kg_cd31 kg_sp31 13 = some (16, 17, 1, 29, 0, []) ∧ kg_lks kg_cd31 kg_sp31 16 = some (17, 3, 0, 0, 0, []) ∧ kg_lks kg_cd31 kg_sp31 17 = some (18, 0, 4, 0, 0, []) ∧ kg_lks kg_cd31 kg_sp31 18 = some (19, 2, 2, 0, 0, []) ∧ kg_lks kg_cd31 kg_sp31 19 = some (22, 39, 32, 3, 144, []) ∧ kg_lks kg_cd31 kg_sp31 22 = some (25, 16, 0, 29, 0, []) ∧ kg_lks kg_cd31 kg_sp31 25 = some (26, 0, 1, 0, 0, []) ∧ kg_lks kg_cd31 kg_sp31 26 = some (29, 18, 0, 30, 0, []) ∧ kg_lks kg_cd31 kg_sp31 29 = some (30, 0, 0, 0, 0, []) ∧ kg_lks kg_cd31 kg_sp31 30 = some (31, 48, 0, 0, 0, []) := by refine ⟨?_, ?_, ?_, ?_, ?_, ?_, ?_, ?_, ?_, ?_, ?_, ?_, ?_, ?_, ?_, ?_, ?_⟩ <;> rfl
theorem kg_v31 {G : kg_G} (hL : G.2.2.2.2.2.1 < 2 ^ 31) {d N0 NX : Nat} (hd : 1 ≤ d) {K : kg_Qt} (f : Nat) {pc : Nat} {ls : List (Option Value)} {st : List Value} {w : kg_W} {M : kg_M} (h : kg_go G NX (kg_call G d NX) (kg_ret 2 NX K) kg_cd31 kg_sp31 (kg_P G d 31 3 N0 NX K) f pc ls st w M) : kg_P G d 31 3 N0 NX K pc ls st w M := kg_vgo hL hd kg_ok31 rfl rfl rfl rfl (fun e => by cases e) h
theorem kg_m31 {G : kg_G} {d NX : Nat} {K : kg_Qt} {args : List Value} {w : kg_W} {M : kg_M} (hal : args.length ≤ 3) (hw : w.1 ≤ NX) (h : kg_P G d 31 3 w.1 NX K 0 (kg_pad 3 args) [] w M) : kg_call G (d + 1) NX 31 args w M K := kg_P_call (by omega) rfl hal hw h
def kg_sp32 : List Nat := []
set_option maxRecDepth 100000 in
theorem kg_ls32 : kg_lks kg_cd32 kg_sp32 0 = some (1, 3, 0, 0, 0, []) ∧ kg_lks kg_cd32 kg_sp32 1 = some (4, 22, 4, 4, 29, []) ∧ kg_lks kg_cd32 kg_sp32 4 = some (5, 2, 1, 0, 0, []) ∧ kg_lks kg_cd32 kg_sp32 5 = some (6, 2, 2, 0, 0, []) ∧ kg_lks kg_cd32 kg_sp32 6 = some (9, 41, 64, 2, 75, []) ∧ kg_lks kg_cd32 kg_sp32 9 = some (12, 39, 7, 2, 139, []) ∧ kg_lks kg_cd32 kg_sp32 12 = some (13, 0, 2, 0, 0, []) ∧ kg_lks kg_cd32 kg_sp32 13 = some (16, 17, 1, 20, 0, []) ∧ kg_lks kg_cd32 kg_sp32 16 = some (17, 0, 1, 0, 0, []) ∧ kg_lks kg_cd32 kg_sp32 17 = some (20, 18, 0, 21, 0, []) ∧ kg_lks kg_cd32 kg_sp32 20 = some (21, 0, 0, 0, 0, []) ∧ kg_lks kg_cd32 kg_sp32 21 = some (22, 48, 0, 0, 0, []) := by refine ⟨?_, ?_, ?_, ?_, ?_, ?_, ?_, ?_, ?_, ?_, ?_, ?_⟩ <;> rfl
theorem kg_v32 {G : kg_G} (hL : G.2.2.2.2.2.1 < 2 ^ 31) {d N0 NX : Nat} (hd : 1 ≤ d) {K : kg_Qt} (f : Nat) {pc : Nat} {ls : List (Option Value)} {st : List Value} {w : kg_W} {M : kg_M} (h : kg_go G NX (kg_call G d NX) (kg_ret 2 NX K) kg_cd32 kg_sp32 (kg_P G d 32 3 N0 NX K) f pc ls st w M) : kg_P G d 32 3 N0 NX K pc ls st w M := kg_vgo hL hd kg_ok32 rfl rfl rfl rfl (fun e => by cases e) h
theorem kg_m32 {G : kg_G} {d NX : Nat} {K : kg_Qt} {args : List Value} {w : kg_W} {M : kg_M} (hal : args.length ≤ 3) (hw : w.1 ≤ NX) (h : kg_P G d 32 3 w.1 NX K 0 (kg_pad 3 args) [] w M) : kg_call G (d + 1) NX 32 args w M K := kg_P_call (by omega) rfl hal hw h
def kg_sp33 : List Nat := [31]
set_option maxRecDepth 100000 in
theorem kg_ls33 : kg_lks kg_cd33 kg_sp33 0 = some (1, 3, 0, 0, 0, []) ∧ kg_lks kg_cd33 kg_sp33 1 = some (2, 0, 0, 0, 0, []) ∧ kg_lks kg_cd33 kg_sp33 2 = some (3, 2, 1, 0, 0, []) ∧ kg_lks kg_cd33 kg_sp33 3 = some (4, 2, 2, 0, 0, []) ∧ kg_lks kg_cd33 kg_sp33 4 = some (7, 39, 34, 4, 107, []) ∧ kg_lks kg_cd33 kg_sp33 7 = some (8, 3, 0, 0, 0, []) ∧ kg_lks kg_cd33 kg_sp33 8 = some (11, 22, 4, 5, 33, []) ∧ kg_lks kg_cd33 kg_sp33 11 = some (12, 2, 1, 0, 0, []) ∧ kg_lks kg_cd33 kg_sp33 12 = some (13, 2, 2, 0, 0, []) ∧ kg_lks kg_cd33 kg_sp33 13 = some (16, 41, 68, 2, 110, []) ∧ kg_lks kg_cd33 kg_sp33 16 = some (17, 3, 0, 0, 0, []) ∧ kg_lks kg_cd33 kg_sp33 17 = some (20, 21, 4, 0, 9, []) ∧ kg_lks kg_cd33 kg_sp33 20 = some (21, 31, 0, 0, 0, []) ∧ kg_lks kg_cd33 kg_sp33 21 = some (22, 3, 0, 0, 0, []) ∧ kg_lks kg_cd33 kg_sp33 22 = some (23, 2, 1, 0, 0, []) ∧ kg_lks kg_cd33 kg_sp33 23 = some (24, 2, 2, 0, 0, []) ∧ kg_lks kg_cd33 kg_sp33 24 = some (27, 39, 35, 3, 113, []) ∧ kg_lks kg_cd33 kg_sp33 27 = some (28, 4, 3, 0, 0, []) ∧ kg_lks kg_cd33 kg_sp33 28 = some (29, 0, 0, 0, 0, []) ∧ kg_lks kg_cd33 kg_sp33 29 = some (31, 4, 4, 0, 0, []) ∧ kg_lks kg_cd33 kg_sp33 31 = none ∧ kg_lks kg_cd33 kg_sp33 33 = some (35, 0, 8, 0, 0, []) ∧ kg_lks kg_cd33 kg_sp33 35 = some (38, 17, 3, 80, 0, []) ∧ kg_lks kg_cd33 kg_sp33 38 = some (39, 3, 0, 0, 0, []) ∧ kg_lks kg_cd33 kg_sp33 39 = some (40, 2, 1, 0, 0, []) ∧ kg_lks kg_cd33 kg_sp33 40 = some (42, 2, 4, 0, 0, []) ∧ kg_lks kg_cd33 kg_sp33 42 = some (45, 39, 27, 3, 87, []) ∧ kg_lks kg_cd33 kg_sp33 45 = some (46, 3, 0, 0, 0, []) ∧ kg_lks kg_cd33 kg_sp33 46 = some (47, 2, 2, 0, 0, []) ∧ kg_lks kg_cd33 kg_sp33 47 = some (49, 2, 4, 0, 0, []) ∧ kg_lks kg_cd33 kg_sp33 49 = some (52, 39, 27, 3, 87, []) ∧ kg_lks kg_cd33 kg_sp33 52 = some (55, 17, 5, 66, 0, []) ∧ kg_lks kg_cd33 kg_sp33 55 = some (56, 3, 0, 0, 0, []) ∧ kg_lks kg_cd33 kg_sp33 56 = some (57, 2, 2, 0, 0, []) ∧ kg_lks kg_cd33 kg_sp33 57 = some (58, 2, 1, 0, 0, []) ∧ kg_lks kg_cd33 kg_sp33 58 = some (60, 2, 4, 0, 0, []) ∧ kg_lks kg_cd33 kg_sp33 60 = some (63, 39, 30, 4, 90, []) ∧ kg_lks kg_cd33 kg_sp33 63 = some (66, 18, 0, 74, 0, []) ∧ kg_lks kg_cd33 kg_sp33 66 = some (67, 3, 0, 0, 0, []) ∧ kg_lks kg_cd33 kg_sp33 67 = some (68, 2, 1, 0, 0, []) ∧ kg_lks kg_cd33 kg_sp33 68 = some (69, 2, 2, 0, 0, []) ∧ kg_lks kg_cd33 kg_sp33 69 = some (71, 2, 4, 0, 0, []) ∧ kg_lks kg_cd33 kg_sp33 71 = some (74, 39, 30, 4, 90, []) ∧ kg_lks kg_cd33 kg_sp33 74 = some (77, 6, 4, 1, 0, []) ∧ kg_lks kg_cd33 kg_sp33 77 = some (80, 18, 0, 31, 0, []) ∧ kg_lks kg_cd33 kg_sp33 80 = some (81, 2, 3, 0, 0, []) ∧ kg_lks kg_cd33 kg_sp33 81 = some (82, 48, 0, 0, 0, []) := by refine ⟨?_, ?_, ?_, ?_, ?_, ?_, ?_, ?_, ?_, ?_, ?_, ?_, ?_, ?_, ?_, ?_, ?_, ?_, ?_, ?_, ?_, ?_, ?_, ?_, ?_, ?_, ?_, ?_, ?_, ?_, ?_, ?_, ?_, ?_, ?_, ?_, ?_, ?_, ?_, ?_, ?_, ?_, ?_, ?_, ?_, ?_, ?_⟩ <;> rfl
theorem kg_v33 {G : kg_G} (hL : G.2.2.2.2.2.1 < 2 ^ 31) {d N0 NX : Nat} (hd : 1 ≤ d) {K : kg_Qt} (f : Nat) {pc : Nat} {ls : List (Option Value)} {st : List Value} {w : kg_W} {M : kg_M} (h : kg_go G NX (kg_call G d NX) (kg_ret 1 NX K) kg_cd33 kg_sp33 (kg_P G d 33 5 N0 NX K) f pc ls st w M) : kg_P G d 33 5 N0 NX K pc ls st w M := kg_vgo hL hd kg_ok33 rfl rfl rfl rfl (fun e => by cases e) h
theorem kg_m33 {G : kg_G} {d NX : Nat} {K : kg_Qt} {args : List Value} {w : kg_W} {M : kg_M} (hal : args.length ≤ 5) (hw : w.1 ≤ NX) (h : kg_P G d 33 5 w.1 NX K 0 (kg_pad 5 args) [] w M) : kg_call G (d + 1) NX 33 args w M K := kg_P_call (by omega) rfl hal hw h
def kg_sp34 : List Nat := []
set_option maxRecDepth 100000 in
theorem kg_ls34 : kg_lks kg_cd34 kg_sp34 0 = some (1, 3, 0, 0, 0, []) ∧ kg_lks kg_cd34 kg_sp34 1 = some (4, 22, 4, 7, 46, []) ∧ kg_lks kg_cd34 kg_sp34 4 = some (5, 2, 1, 0, 0, []) ∧ kg_lks kg_cd34 kg_sp34 5 = some (6, 3, 0, 0, 0, []) ∧ kg_lks kg_cd34 kg_sp34 6 = some (9, 21, 4, 0, 9, []) ∧ kg_lks kg_cd34 kg_sp34 9 = some (10, 2, 2, 0, 0, []) ∧ kg_lks kg_cd34 kg_sp34 10 = some (11, 2, 3, 0, 0, []) ∧ kg_lks kg_cd34 kg_sp34 11 = some (14, 45, 0, 0, 116, []) ∧ kg_lks kg_cd34 kg_sp34 14 = some (15, 2, 2, 0, 0, []) ∧ kg_lks kg_cd34 kg_sp34 15 = some (16, 2, 3, 0, 0, []) ∧ kg_lks kg_cd34 kg_sp34 16 = some (19, 46, 0, 0, 121, []) ∧ kg_lks kg_cd34 kg_sp34 19 = some (22, 39, 2, 5, 104, []) ∧ kg_lks kg_cd34 kg_sp34 22 = some (23, 49, 0, 0, 0, []) := by refine ⟨?_, ?_, ?_, ?_, ?_, ?_, ?_, ?_, ?_, ?_, ?_, ?_, ?_⟩ <;> rfl
theorem kg_v34 {G : kg_G} (hL : G.2.2.2.2.2.1 < 2 ^ 31) {d N0 NX : Nat} (hd : 1 ≤ d) {K : kg_Qt} (f : Nat) {pc : Nat} {ls : List (Option Value)} {st : List Value} {w : kg_W} {M : kg_M} (h : kg_go G NX (kg_call G d NX) (kg_ret 0 NX K) kg_cd34 kg_sp34 (kg_P G d 34 4 N0 NX K) f pc ls st w M) : kg_P G d 34 4 N0 NX K pc ls st w M := kg_vgo hL hd kg_ok34 rfl rfl rfl rfl (fun e => by cases e) h
theorem kg_m34 {G : kg_G} {d NX : Nat} {K : kg_Qt} {args : List Value} {w : kg_W} {M : kg_M} (hal : args.length ≤ 4) (hw : w.1 ≤ NX) (h : kg_P G d 34 4 w.1 NX K 0 (kg_pad 4 args) [] w M) : kg_call G (d + 1) NX 34 args w M K := kg_P_call (by omega) rfl hal hw h
def kg_sp35 : List Nat := [5]
set_option maxRecDepth 100000 in
theorem kg_ls35 : kg_lks kg_cd35 kg_sp35 0 = some (1, 0, 0, 0, 0, []) ∧ kg_lks kg_cd35 kg_sp35 1 = some (2, 4, 3, 0, 0, []) ∧ kg_lks kg_cd35 kg_sp35 2 = some (3, 0, 0, 0, 0, []) ∧ kg_lks kg_cd35 kg_sp35 3 = some (5, 4, 4, 0, 0, []) ∧ kg_lks kg_cd35 kg_sp35 5 = none ∧ kg_lks kg_cd35 kg_sp35 7 = some (9, 0, 8, 0, 0, []) ∧ kg_lks kg_cd35 kg_sp35 9 = some (12, 17, 3, 38, 0, []) ∧ kg_lks kg_cd35 kg_sp35 12 = some (13, 3, 0, 0, 0, []) ∧ kg_lks kg_cd35 kg_sp35 13 = some (14, 2, 1, 0, 0, []) ∧ kg_lks kg_cd35 kg_sp35 14 = some (16, 2, 4, 0, 0, []) ∧ kg_lks kg_cd35 kg_sp35 16 = some (19, 39, 27, 3, 87, []) ∧ kg_lks kg_cd35 kg_sp35 19 = some (20, 3, 0, 0, 0, []) ∧ kg_lks kg_cd35 kg_sp35 20 = some (21, 2, 2, 0, 0, []) ∧ kg_lks kg_cd35 kg_sp35 21 = some (23, 2, 4, 0, 0, []) ∧ kg_lks kg_cd35 kg_sp35 23 = some (26, 39, 27, 3, 87, []) ∧ kg_lks kg_cd35 kg_sp35 26 = some (29, 17, 0, 32, 0, []) ∧ kg_lks kg_cd35 kg_sp35 29 = some (32, 6, 3, 1, 0, []) ∧ kg_lks kg_cd35 kg_sp35 32 = some (35, 6, 4, 1, 0, []) ∧ kg_lks kg_cd35 kg_sp35 35 = some (38, 18, 0, 5, 0, []) ∧ kg_lks kg_cd35 kg_sp35 38 = some (39, 2, 3, 0, 0, []) ∧ kg_lks kg_cd35 kg_sp35 39 = some (40, 48, 0, 0, 0, []) := by refine ⟨?_, ?_, ?_, ?_, ?_, ?_, ?_, ?_, ?_, ?_, ?_, ?_, ?_, ?_, ?_, ?_, ?_, ?_, ?_, ?_, ?_⟩ <;> rfl
theorem kg_v35 {G : kg_G} (hL : G.2.2.2.2.2.1 < 2 ^ 31) {d N0 NX : Nat} (hd : 1 ≤ d) {K : kg_Qt} (f : Nat) {pc : Nat} {ls : List (Option Value)} {st : List Value} {w : kg_W} {M : kg_M} (h : kg_go G NX (kg_call G d NX) (kg_ret 1 NX K) kg_cd35 kg_sp35 (kg_P G d 35 5 N0 NX K) f pc ls st w M) : kg_P G d 35 5 N0 NX K pc ls st w M := kg_vgo hL hd kg_ok35 rfl rfl rfl rfl (fun e => by cases e) h
theorem kg_m35 {G : kg_G} {d NX : Nat} {K : kg_Qt} {args : List Value} {w : kg_W} {M : kg_M} (hal : args.length ≤ 5) (hw : w.1 ≤ NX) (h : kg_P G d 35 5 w.1 NX K 0 (kg_pad 5 args) [] w M) : kg_call G (d + 1) NX 35 args w M K := kg_P_call (by omega) rfl hal hw h
def kg_sp36 : List Nat := [4]
set_option maxRecDepth 100000 in
theorem kg_ls36 : kg_lks kg_cd36 kg_sp36 0 = some (1, 0, 0, 0, 0, []) ∧ kg_lks kg_cd36 kg_sp36 1 = some (2, 4, 2, 0, 0, []) ∧ kg_lks kg_cd36 kg_sp36 2 = some (3, 0, 0, 0, 0, []) ∧ kg_lks kg_cd36 kg_sp36 3 = some (4, 4, 3, 0, 0, []) ∧ kg_lks kg_cd36 kg_sp36 4 = none ∧ kg_lks kg_cd36 kg_sp36 5 = some (7, 0, 8, 0, 0, []) ∧ kg_lks kg_cd36 kg_sp36 7 = some (10, 17, 3, 28, 0, []) ∧ kg_lks kg_cd36 kg_sp36 10 = some (11, 3, 0, 0, 0, []) ∧ kg_lks kg_cd36 kg_sp36 11 = some (12, 2, 1, 0, 0, []) ∧ kg_lks kg_cd36 kg_sp36 12 = some (13, 2, 3, 0, 0, []) ∧ kg_lks kg_cd36 kg_sp36 13 = some (16, 39, 37, 3, 159, []) ∧ kg_lks kg_cd36 kg_sp36 16 = some (19, 16, 0, 22, 0, []) ∧ kg_lks kg_cd36 kg_sp36 19 = some (22, 6, 2, 1, 0, []) ∧ kg_lks kg_cd36 kg_sp36 22 = some (25, 6, 3, 1, 0, []) ∧ kg_lks kg_cd36 kg_sp36 25 = some (28, 18, 0, 4, 0, []) ∧ kg_lks kg_cd36 kg_sp36 28 = some (29, 2, 2, 0, 0, []) ∧ kg_lks kg_cd36 kg_sp36 29 = some (30, 48, 0, 0, 0, []) := by refine ⟨?_, ?_, ?_, ?_, ?_, ?_, ?_, ?_, ?_, ?_, ?_, ?_, ?_, ?_, ?_, ?_, ?_⟩ <;> rfl
theorem kg_v36 {G : kg_G} (hL : G.2.2.2.2.2.1 < 2 ^ 31) {d N0 NX : Nat} (hd : 1 ≤ d) {K : kg_Qt} (f : Nat) {pc : Nat} {ls : List (Option Value)} {st : List Value} {w : kg_W} {M : kg_M} (h : kg_go G NX (kg_call G d NX) (kg_ret 1 NX K) kg_cd36 kg_sp36 (kg_P G d 36 4 N0 NX K) f pc ls st w M) : kg_P G d 36 4 N0 NX K pc ls st w M := kg_vgo hL hd kg_ok36 rfl rfl rfl rfl (fun e => by cases e) h
theorem kg_m36 {G : kg_G} {d NX : Nat} {K : kg_Qt} {args : List Value} {w : kg_W} {M : kg_M} (hal : args.length ≤ 4) (hw : w.1 ≤ NX) (h : kg_P G d 36 4 w.1 NX K 0 (kg_pad 4 args) [] w M) : kg_call G (d + 1) NX 36 args w M K := kg_P_call (by omega) rfl hal hw h
def kg_sp37 : List Nat := []
set_option maxRecDepth 100000 in
theorem kg_ls37 : kg_lks kg_cd37 kg_sp37 0 = some (1, 3, 0, 0, 0, []) ∧ kg_lks kg_cd37 kg_sp37 1 = some (2, 2, 1, 0, 0, []) ∧ kg_lks kg_cd37 kg_sp37 2 = some (3, 2, 2, 0, 0, []) ∧ kg_lks kg_cd37 kg_sp37 3 = some (6, 39, 38, 3, 150, []) ∧ kg_lks kg_cd37 kg_sp37 6 = some (9, 16, 1, 11, 0, []) ∧ kg_lks kg_cd37 kg_sp37 9 = some (10, 0, 0, 0, 0, []) ∧ kg_lks kg_cd37 kg_sp37 10 = some (11, 48, 0, 0, 0, []) ∧ kg_lks kg_cd37 kg_sp37 11 = some (12, 3, 0, 0, 0, []) ∧ kg_lks kg_cd37 kg_sp37 12 = some (15, 22, 4, 2, 18, []) ∧ kg_lks kg_cd37 kg_sp37 15 = some (16, 0, 3, 0, 0, []) ∧ kg_lks kg_cd37 kg_sp37 16 = some (17, 27, 0, 0, 0, []) ∧ kg_lks kg_cd37 kg_sp37 17 = some (20, 16, 0, 41, 0, []) ∧ kg_lks kg_cd37 kg_sp37 20 = some (21, 3, 0, 0, 0, []) ∧ kg_lks kg_cd37 kg_sp37 21 = some (22, 2, 1, 0, 0, []) ∧ kg_lks kg_cd37 kg_sp37 22 = some (23, 3, 0, 0, 0, []) ∧ kg_lks kg_cd37 kg_sp37 23 = some (26, 22, 4, 4, 29, []) ∧ kg_lks kg_cd37 kg_sp37 26 = some (29, 22, 1, 3, 153, []) ∧ kg_lks kg_cd37 kg_sp37 29 = some (30, 2, 1, 0, 0, []) ∧ kg_lks kg_cd37 kg_sp37 30 = some (31, 2, 2, 0, 0, []) ∧ kg_lks kg_cd37 kg_sp37 31 = some (34, 41, 64, 2, 75, []) ∧ kg_lks kg_cd37 kg_sp37 34 = some (35, 27, 0, 0, 0, []) ∧ kg_lks kg_cd37 kg_sp37 35 = some (38, 39, 40, 3, 156, []) ∧ kg_lks kg_cd37 kg_sp37 38 = some (41, 16, 0, 45, 0, []) ∧ kg_lks kg_cd37 kg_sp37 41 = some (42, 0, 1, 0, 0, []) ∧ kg_lks kg_cd37 kg_sp37 42 = some (45, 18, 0, 46, 0, []) ∧ kg_lks kg_cd37 kg_sp37 45 = some (46, 0, 0, 0, 0, []) ∧ kg_lks kg_cd37 kg_sp37 46 = some (47, 48, 0, 0, 0, []) := by refine ⟨?_, ?_, ?_, ?_, ?_, ?_, ?_, ?_, ?_, ?_, ?_, ?_, ?_, ?_, ?_, ?_, ?_, ?_, ?_, ?_, ?_, ?_, ?_, ?_, ?_, ?_, ?_⟩ <;> rfl
theorem kg_v37 {G : kg_G} (hL : G.2.2.2.2.2.1 < 2 ^ 31) {d N0 NX : Nat} (hd : 1 ≤ d) {K : kg_Qt} (f : Nat) {pc : Nat} {ls : List (Option Value)} {st : List Value} {w : kg_W} {M : kg_M} (h : kg_go G NX (kg_call G d NX) (kg_ret 2 NX K) kg_cd37 kg_sp37 (kg_P G d 37 3 N0 NX K) f pc ls st w M) : kg_P G d 37 3 N0 NX K pc ls st w M := kg_vgo hL hd kg_ok37 rfl rfl rfl rfl (fun e => by cases e) h
theorem kg_m37 {G : kg_G} {d NX : Nat} {K : kg_Qt} {args : List Value} {w : kg_W} {M : kg_M} (hal : args.length ≤ 3) (hw : w.1 ≤ NX) (h : kg_P G d 37 3 w.1 NX K 0 (kg_pad 3 args) [] w M) : kg_call G (d + 1) NX 37 args w M K := kg_P_call (by omega) rfl hal hw h
def kg_sp38 : List Nat := []
set_option maxRecDepth 100000 in
theorem kg_ls38 : kg_lks kg_cd38 kg_sp38 0 = some (1, 3, 0, 0, 0, []) ∧ kg_lks kg_cd38 kg_sp38 1 = some (2, 2, 1, 0, 0, []) ∧ kg_lks kg_cd38 kg_sp38 2 = some (3, 2, 2, 0, 0, []) ∧ kg_lks kg_cd38 kg_sp38 3 = some (6, 39, 32, 3, 144, []) ∧ kg_lks kg_cd38 kg_sp38 6 = some (9, 16, 0, 28, 0, []) ∧ kg_lks kg_cd38 kg_sp38 9 = some (10, 3, 0, 0, 0, []) ∧ kg_lks kg_cd38 kg_sp38 10 = some (11, 2, 1, 0, 0, []) ∧ kg_lks kg_cd38 kg_sp38 11 = some (12, 2, 2, 0, 0, []) ∧ kg_lks kg_cd38 kg_sp38 12 = some (15, 39, 39, 3, 147, []) ∧ kg_lks kg_cd38 kg_sp38 15 = some (16, 3, 0, 0, 0, []) ∧ kg_lks kg_cd38 kg_sp38 16 = some (19, 22, 4, 2, 18, []) ∧ kg_lks kg_cd38 kg_sp38 19 = some (20, 0, 2, 0, 0, []) ∧ kg_lks kg_cd38 kg_sp38 20 = some (21, 27, 0, 0, 0, []) ∧ kg_lks kg_cd38 kg_sp38 21 = some (24, 17, 2, 28, 0, []) ∧ kg_lks kg_cd38 kg_sp38 24 = some (25, 0, 1, 0, 0, []) ∧ kg_lks kg_cd38 kg_sp38 25 = some (28, 18, 0, 29, 0, []) ∧ kg_lks kg_cd38 kg_sp38 28 = some (29, 0, 0, 0, 0, []) ∧ kg_lks kg_cd38 kg_sp38 29 = some (30, 48, 0, 0, 0, []) := by refine ⟨?_, ?_, ?_, ?_, ?_, ?_, ?_, ?_, ?_, ?_, ?_, ?_, ?_, ?_, ?_, ?_, ?_, ?_⟩ <;> rfl
theorem kg_v38 {G : kg_G} (hL : G.2.2.2.2.2.1 < 2 ^ 31) {d N0 NX : Nat} (hd : 1 ≤ d) {K : kg_Qt} (f : Nat) {pc : Nat} {ls : List (Option Value)} {st : List Value} {w : kg_W} {M : kg_M} (h : kg_go G NX (kg_call G d NX) (kg_ret 2 NX K) kg_cd38 kg_sp38 (kg_P G d 38 3 N0 NX K) f pc ls st w M) : kg_P G d 38 3 N0 NX K pc ls st w M := kg_vgo hL hd kg_ok38 rfl rfl rfl rfl (fun e => by cases e) h
theorem kg_m38 {G : kg_G} {d NX : Nat} {K : kg_Qt} {args : List Value} {w : kg_W} {M : kg_M} (hal : args.length ≤ 3) (hw : w.1 ≤ NX) (h : kg_P G d 38 3 w.1 NX K 0 (kg_pad 3 args) [] w M) : kg_call G (d + 1) NX 38 args w M K := kg_P_call (by omega) rfl hal hw h
def kg_sp39 : List Nat := []
set_option maxRecDepth 100000 in
theorem kg_ls39 : kg_lks kg_cd39 kg_sp39 0 = some (1, 3, 0, 0, 0, []) ∧ kg_lks kg_cd39 kg_sp39 1 = some (4, 21, 4, 0, 9, []) ∧ kg_lks kg_cd39 kg_sp39 4 = some (5, 3, 0, 0, 0, []) ∧ kg_lks kg_cd39 kg_sp39 5 = some (8, 22, 4, 4, 29, []) ∧ kg_lks kg_cd39 kg_sp39 8 = some (11, 22, 1, 2, 143, []) ∧ kg_lks kg_cd39 kg_sp39 11 = some (12, 2, 1, 0, 0, []) ∧ kg_lks kg_cd39 kg_sp39 12 = some (13, 2, 2, 0, 0, []) ∧ kg_lks kg_cd39 kg_sp39 13 = some (16, 41, 64, 2, 75, []) ∧ kg_lks kg_cd39 kg_sp39 16 = some (17, 27, 0, 0, 0, []) ∧ kg_lks kg_cd39 kg_sp39 17 = some (18, 8, 0, 0, 0, []) ∧ kg_lks kg_cd39 kg_sp39 18 = some (19, 48, 0, 0, 0, []) := by refine ⟨?_, ?_, ?_, ?_, ?_, ?_, ?_, ?_, ?_, ?_, ?_⟩ <;> rfl
theorem kg_v39 {G : kg_G} (hL : G.2.2.2.2.2.1 < 2 ^ 31) {d N0 NX : Nat} (hd : 1 ≤ d) {K : kg_Qt} (f : Nat) {pc : Nat} {ls : List (Option Value)} {st : List Value} {w : kg_W} {M : kg_M} (h : kg_go G NX (kg_call G d NX) (kg_ret 1 NX K) kg_cd39 kg_sp39 (kg_P G d 39 3 N0 NX K) f pc ls st w M) : kg_P G d 39 3 N0 NX K pc ls st w M := kg_vgo hL hd kg_ok39 rfl rfl rfl rfl (fun e => by cases e) h
theorem kg_m39 {G : kg_G} {d NX : Nat} {K : kg_Qt} {args : List Value} {w : kg_W} {M : kg_M} (hal : args.length ≤ 3) (hw : w.1 ≤ NX) (h : kg_P G d 39 3 w.1 NX K 0 (kg_pad 3 args) [] w M) : kg_call G (d + 1) NX 39 args w M K := kg_P_call (by omega) rfl hal hw h
def kg_sp40 : List Nat := [2]
set_option maxRecDepth 100000 in
theorem kg_ls40 : kg_lks kg_cd40 kg_sp40 0 = some (1, 0, 0, 0, 0, []) ∧ kg_lks kg_cd40 kg_sp40 1 = some (2, 4, 3, 0, 0, []) ∧ kg_lks kg_cd40 kg_sp40 2 = none ∧ kg_lks kg_cd40 kg_sp40 3 = some (4, 0, 4, 0, 0, []) ∧ kg_lks kg_cd40 kg_sp40 4 = some (7, 17, 3, 34, 0, []) ∧ kg_lks kg_cd40 kg_sp40 7 = some (8, 2, 3, 0, 0, []) ∧ kg_lks kg_cd40 kg_sp40 8 = some (9, 2, 1, 0, 0, []) ∧ kg_lks kg_cd40 kg_sp40 9 = some (12, 17, 0, 28, 0, []) ∧ kg_lks kg_cd40 kg_sp40 12 = some (13, 3, 0, 0, 0, []) ∧ kg_lks kg_cd40 kg_sp40 13 = some (16, 22, 4, 5, 33, []) ∧ kg_lks kg_cd40 kg_sp40 16 = some (17, 2, 1, 0, 0, []) ∧ kg_lks kg_cd40 kg_sp40 17 = some (18, 2, 3, 0, 0, []) ∧ kg_lks kg_cd40 kg_sp40 18 = some (21, 41, 68, 2, 110, []) ∧ kg_lks kg_cd40 kg_sp40 21 = some (22, 27, 0, 0, 0, []) ∧ kg_lks kg_cd40 kg_sp40 22 = some (23, 2, 2, 0, 0, []) ∧ kg_lks kg_cd40 kg_sp40 23 = some (26, 17, 4, 28, 0, []) ∧ kg_lks kg_cd40 kg_sp40 26 = some (27, 0, 0, 0, 0, []) ∧ kg_lks kg_cd40 kg_sp40 27 = some (28, 48, 0, 0, 0, []) ∧ kg_lks kg_cd40 kg_sp40 28 = some (31, 6, 3, 1, 0, []) ∧ kg_lks kg_cd40 kg_sp40 31 = some (34, 18, 0, 2, 0, []) ∧ kg_lks kg_cd40 kg_sp40 34 = some (35, 0, 1, 0, 0, []) ∧ kg_lks kg_cd40 kg_sp40 35 = some (36, 48, 0, 0, 0, []) := by refine ⟨?_, ?_, ?_, ?_, ?_, ?_, ?_, ?_, ?_, ?_, ?_, ?_, ?_, ?_, ?_, ?_, ?_, ?_, ?_, ?_, ?_, ?_⟩ <;> rfl
theorem kg_v40 {G : kg_G} (hL : G.2.2.2.2.2.1 < 2 ^ 31) {d N0 NX : Nat} (hd : 1 ≤ d) {K : kg_Qt} (f : Nat) {pc : Nat} {ls : List (Option Value)} {st : List Value} {w : kg_W} {M : kg_M} (h : kg_go G NX (kg_call G d NX) (kg_ret 2 NX K) kg_cd40 kg_sp40 (kg_P G d 40 4 N0 NX K) f pc ls st w M) : kg_P G d 40 4 N0 NX K pc ls st w M := kg_vgo hL hd kg_ok40 rfl rfl rfl rfl (fun e => by cases e) h
theorem kg_m40 {G : kg_G} {d NX : Nat} {K : kg_Qt} {args : List Value} {w : kg_W} {M : kg_M} (hal : args.length ≤ 4) (hw : w.1 ≤ NX) (h : kg_P G d 40 4 w.1 NX K 0 (kg_pad 4 args) [] w M) : kg_call G (d + 1) NX 40 args w M K := kg_P_call (by omega) rfl hal hw h
def kg_sp41 : List Nat := [4]
set_option maxRecDepth 100000 in
theorem kg_ls41 : kg_lks kg_cd41 kg_sp41 0 = some (1, 0, 0, 0, 0, []) ∧ kg_lks kg_cd41 kg_sp41 1 = some (2, 4, 2, 0, 0, []) ∧ kg_lks kg_cd41 kg_sp41 2 = some (3, 0, 0, 0, 0, []) ∧ kg_lks kg_cd41 kg_sp41 3 = some (4, 4, 3, 0, 0, []) ∧ kg_lks kg_cd41 kg_sp41 4 = none ∧ kg_lks kg_cd41 kg_sp41 5 = some (7, 0, 8, 0, 0, []) ∧ kg_lks kg_cd41 kg_sp41 7 = some (10, 17, 3, 40, 0, []) ∧ kg_lks kg_cd41 kg_sp41 10 = some (11, 3, 0, 0, 0, []) ∧ kg_lks kg_cd41 kg_sp41 11 = some (12, 2, 1, 0, 0, []) ∧ kg_lks kg_cd41 kg_sp41 12 = some (13, 2, 3, 0, 0, []) ∧ kg_lks kg_cd41 kg_sp41 13 = some (16, 39, 37, 3, 159, []) ∧ kg_lks kg_cd41 kg_sp41 16 = some (19, 16, 0, 34, 0, []) ∧ kg_lks kg_cd41 kg_sp41 19 = some (20, 3, 0, 0, 0, []) ∧ kg_lks kg_cd41 kg_sp41 20 = some (23, 22, 4, 4, 29, []) ∧ kg_lks kg_cd41 kg_sp41 23 = some (24, 2, 1, 0, 0, []) ∧ kg_lks kg_cd41 kg_sp41 24 = some (25, 2, 3, 0, 0, []) ∧ kg_lks kg_cd41 kg_sp41 25 = some (28, 41, 64, 2, 75, []) ∧ kg_lks kg_cd41 kg_sp41 28 = some (31, 39, 10, 2, 162, []) ∧ kg_lks kg_cd41 kg_sp41 31 = some (34, 6, 2, 1, 0, []) ∧ kg_lks kg_cd41 kg_sp41 34 = some (37, 6, 3, 1, 0, []) ∧ kg_lks kg_cd41 kg_sp41 37 = some (40, 18, 0, 4, 0, []) ∧ kg_lks kg_cd41 kg_sp41 40 = some (41, 3, 0, 0, 0, []) ∧ kg_lks kg_cd41 kg_sp41 41 = some (44, 22, 4, 7, 46, []) ∧ kg_lks kg_cd41 kg_sp41 44 = some (45, 0, 3, 0, 0, []) ∧ kg_lks kg_cd41 kg_sp41 45 = some (46, 3, 0, 0, 0, []) ∧ kg_lks kg_cd41 kg_sp41 46 = some (49, 21, 4, 0, 9, []) ∧ kg_lks kg_cd41 kg_sp41 49 = some (50, 2, 1, 0, 0, []) ∧ kg_lks kg_cd41 kg_sp41 50 = some (51, 2, 2, 0, 0, []) ∧ kg_lks kg_cd41 kg_sp41 51 = some (54, 39, 2, 5, 104, []) ∧ kg_lks kg_cd41 kg_sp41 54 = some (55, 2, 2, 0, 0, []) ∧ kg_lks kg_cd41 kg_sp41 55 = some (56, 48, 0, 0, 0, []) := by refine ⟨?_, ?_, ?_, ?_, ?_, ?_, ?_, ?_, ?_, ?_, ?_, ?_, ?_, ?_, ?_, ?_, ?_, ?_, ?_, ?_, ?_, ?_, ?_, ?_, ?_, ?_, ?_, ?_, ?_, ?_, ?_⟩ <;> rfl
theorem kg_v41 {G : kg_G} (hL : G.2.2.2.2.2.1 < 2 ^ 31) {d N0 NX : Nat} (hd : 1 ≤ d) {K : kg_Qt} (f : Nat) {pc : Nat} {ls : List (Option Value)} {st : List Value} {w : kg_W} {M : kg_M} (h : kg_go G NX (kg_call G d NX) (kg_ret 1 NX K) kg_cd41 kg_sp41 (kg_P G d 41 4 N0 NX K) f pc ls st w M) : kg_P G d 41 4 N0 NX K pc ls st w M := kg_vgo hL hd kg_ok41 rfl rfl rfl rfl (fun e => by cases e) h
theorem kg_m41 {G : kg_G} {d NX : Nat} {K : kg_Qt} {args : List Value} {w : kg_W} {M : kg_M} (hal : args.length ≤ 4) (hw : w.1 ≤ NX) (h : kg_P G d 41 4 w.1 NX K 0 (kg_pad 4 args) [] w M) : kg_call G (d + 1) NX 41 args w M K := kg_P_call (by omega) rfl hal hw h
def kg_sp42 : List Nat := [14]
set_option maxRecDepth 100000 in
theorem kg_ls42 : kg_lks kg_cd42 kg_sp42 0 = some (1, 3, 0, 0, 0, []) ∧ kg_lks kg_cd42 kg_sp42 1 = some (2, 13, 0, 0, 0, []) ∧ kg_lks kg_cd42 kg_sp42 2 = some (5, 21, 4, 0, 9, []) ∧ kg_lks kg_cd42 kg_sp42 5 = some (6, 0, 1, 0, 0, []) ∧ kg_lks kg_cd42 kg_sp42 6 = some (7, 7, 0, 0, 0, []) ∧ kg_lks kg_cd42 kg_sp42 7 = some (10, 23, 4, 0, 9, []) ∧ kg_lks kg_cd42 kg_sp42 10 = some (11, 0, 0, 0, 0, []) ∧ kg_lks kg_cd42 kg_sp42 11 = some (12, 4, 1, 0, 0, []) ∧ kg_lks kg_cd42 kg_sp42 12 = some (13, 0, 0, 0, 0, []) ∧ kg_lks kg_cd42 kg_sp42 13 = some (14, 4, 2, 0, 0, []) ∧ kg_lks kg_cd42 kg_sp42 14 = none ∧ kg_lks kg_cd42 kg_sp42 15 = some (16, 3, 0, 0, 0, []) ∧ kg_lks kg_cd42 kg_sp42 16 = some (19, 22, 4, 6, 39, []) ∧ kg_lks kg_cd42 kg_sp42 19 = some (22, 21, 2, 0, 124, []) ∧ kg_lks kg_cd42 kg_sp42 22 = some (25, 17, 3, 109, 0, []) ∧ kg_lks kg_cd42 kg_sp42 25 = some (26, 3, 0, 0, 0, []) ∧ kg_lks kg_cd42 kg_sp42 26 = some (29, 22, 4, 6, 39, []) ∧ kg_lks kg_cd42 kg_sp42 29 = some (32, 22, 2, 3, 127, []) ∧ kg_lks kg_cd42 kg_sp42 32 = some (33, 2, 2, 0, 0, []) ∧ kg_lks kg_cd42 kg_sp42 33 = some (34, 27, 0, 0, 0, []) ∧ kg_lks kg_cd42 kg_sp42 34 = some (35, 3, 0, 0, 0, []) ∧ kg_lks kg_cd42 kg_sp42 35 = some (38, 21, 4, 0, 9, []) ∧ kg_lks kg_cd42 kg_sp42 38 = some (41, 17, 1, 103, 0, []) ∧ kg_lks kg_cd42 kg_sp42 41 = some (42, 3, 0, 0, 0, []) ∧ kg_lks kg_cd42 kg_sp42 42 = some (45, 22, 4, 6, 39, []) ∧ kg_lks kg_cd42 kg_sp42 45 = some (48, 22, 2, 1, 130, []) ∧ kg_lks kg_cd42 kg_sp42 48 = some (49, 2, 2, 0, 0, []) ∧ kg_lks kg_cd42 kg_sp42 49 = some (50, 27, 0, 0, 0, []) ∧ kg_lks kg_cd42 kg_sp42 50 = some (51, 4, 3, 0, 0, []) ∧ kg_lks kg_cd42 kg_sp42 51 = some (52, 3, 0, 0, 0, []) ∧ kg_lks kg_cd42 kg_sp42 52 = some (55, 22, 4, 6, 39, []) ∧ kg_lks kg_cd42 kg_sp42 55 = some (58, 22, 2, 2, 133, []) ∧ kg_lks kg_cd42 kg_sp42 58 = some (59, 2, 2, 0, 0, []) ∧ kg_lks kg_cd42 kg_sp42 59 = some (60, 27, 0, 0, 0, []) ∧ kg_lks kg_cd42 kg_sp42 60 = some (62, 4, 4, 0, 0, []) ∧ kg_lks kg_cd42 kg_sp42 62 = some (63, 3, 0, 0, 0, []) ∧ kg_lks kg_cd42 kg_sp42 63 = some (66, 22, 4, 3, 22, []) ∧ kg_lks kg_cd42 kg_sp42 66 = some (67, 2, 3, 0, 0, []) ∧ kg_lks kg_cd42 kg_sp42 67 = some (68, 28, 0, 0, 0, []) ∧ kg_lks kg_cd42 kg_sp42 68 = some (71, 16, 0, 95, 0, []) ∧ kg_lks kg_cd42 kg_sp42 71 = some (72, 3, 0, 0, 0, []) ∧ kg_lks kg_cd42 kg_sp42 72 = some (75, 22, 4, 3, 22, []) ∧ kg_lks kg_cd42 kg_sp42 75 = some (77, 2, 4, 0, 0, []) ∧ kg_lks kg_cd42 kg_sp42 77 = some (78, 28, 0, 0, 0, []) ∧ kg_lks kg_cd42 kg_sp42 78 = some (81, 16, 0, 95, 0, []) ∧ kg_lks kg_cd42 kg_sp42 81 = some (82, 3, 0, 0, 0, []) ∧ kg_lks kg_cd42 kg_sp42 82 = some (83, 2, 3, 0, 0, []) ∧ kg_lks kg_cd42 kg_sp42 83 = some (85, 2, 4, 0, 0, []) ∧ kg_lks kg_cd42 kg_sp42 85 = some (88, 39, 33, 3, 136, []) ∧ kg_lks kg_cd42 kg_sp42 88 = some (89, 15, 0, 0, 0, []) ∧ kg_lks kg_cd42 kg_sp42 89 = some (92, 6, 1, 1, 0, []) ∧ kg_lks kg_cd42 kg_sp42 92 = some (95, 18, 0, 103, 0, []) ∧ kg_lks kg_cd42 kg_sp42 95 = some (96, 3, 0, 0, 0, []) ∧ kg_lks kg_cd42 kg_sp42 96 = some (97, 0, 1, 0, 0, []) ∧ kg_lks kg_cd42 kg_sp42 97 = some (98, 2, 3, 0, 0, []) ∧ kg_lks kg_cd42 kg_sp42 98 = some (100, 2, 4, 0, 0, []) ∧ kg_lks kg_cd42 kg_sp42 100 = some (103, 39, 34, 4, 107, []) ∧ kg_lks kg_cd42 kg_sp42 103 = some (106, 6, 2, 1, 0, []) ∧ kg_lks kg_cd42 kg_sp42 106 = some (109, 18, 0, 14, 0, []) ∧ kg_lks kg_cd42 kg_sp42 109 = some (110, 2, 1, 0, 0, []) ∧ kg_lks kg_cd42 kg_sp42 110 = some (111, 48, 0, 0, 0, []) := by refine ⟨?_, ?_, ?_, ?_, ?_, ?_, ?_, ?_, ?_, ?_, ?_, ?_, ?_, ?_, ?_, ?_, ?_, ?_, ?_, ?_, ?_, ?_, ?_, ?_, ?_, ?_, ?_, ?_, ?_, ?_, ?_, ?_, ?_, ?_, ?_, ?_, ?_, ?_, ?_, ?_, ?_, ?_, ?_, ?_, ?_, ?_, ?_, ?_, ?_, ?_, ?_, ?_, ?_, ?_, ?_, ?_, ?_, ?_, ?_, ?_, ?_⟩ <;> rfl
theorem kg_v42 {G : kg_G} (hL : G.2.2.2.2.2.1 < 2 ^ 31) {d N0 NX : Nat} (hd : 1 ≤ d) {K : kg_Qt} (f : Nat) {pc : Nat} {ls : List (Option Value)} {st : List Value} {w : kg_W} {M : kg_M} (h : kg_go G NX (kg_call G d NX) (kg_ret 1 NX K) kg_cd42 kg_sp42 (kg_P G d 42 5 N0 NX K) f pc ls st w M) : kg_P G d 42 5 N0 NX K pc ls st w M := kg_vgo hL hd kg_ok42 rfl rfl rfl rfl (fun e => by cases e) h
theorem kg_m42 {G : kg_G} {d NX : Nat} {K : kg_Qt} {args : List Value} {w : kg_W} {M : kg_M} (hal : args.length ≤ 5) (hw : w.1 ≤ NX) (h : kg_P G d 42 5 w.1 NX K 0 (kg_pad 5 args) [] w M) : kg_call G (d + 1) NX 42 args w M K := kg_P_call (by omega) rfl hal hw h
def kg_sp43 : List Nat := [4]
set_option maxRecDepth 100000 in
theorem kg_ls43 : kg_lks kg_cd43 kg_sp43 0 = some (1, 0, 0, 0, 0, []) ∧ kg_lks kg_cd43 kg_sp43 1 = some (2, 4, 2, 0, 0, []) ∧ kg_lks kg_cd43 kg_sp43 2 = some (3, 0, 0, 0, 0, []) ∧ kg_lks kg_cd43 kg_sp43 3 = some (4, 4, 3, 0, 0, []) ∧ kg_lks kg_cd43 kg_sp43 4 = none ∧ kg_lks kg_cd43 kg_sp43 5 = some (6, 0, 4, 0, 0, []) ∧ kg_lks kg_cd43 kg_sp43 6 = some (9, 17, 3, 33, 0, []) ∧ kg_lks kg_cd43 kg_sp43 9 = some (10, 3, 0, 0, 0, []) ∧ kg_lks kg_cd43 kg_sp43 10 = some (11, 2, 3, 0, 0, []) ∧ kg_lks kg_cd43 kg_sp43 11 = some (12, 2, 1, 0, 0, []) ∧ kg_lks kg_cd43 kg_sp43 12 = some (15, 39, 27, 3, 87, []) ∧ kg_lks kg_cd43 kg_sp43 15 = some (16, 3, 0, 0, 0, []) ∧ kg_lks kg_cd43 kg_sp43 16 = some (17, 0, 4, 0, 0, []) ∧ kg_lks kg_cd43 kg_sp43 17 = some (18, 2, 1, 0, 0, []) ∧ kg_lks kg_cd43 kg_sp43 18 = some (21, 39, 27, 3, 87, []) ∧ kg_lks kg_cd43 kg_sp43 21 = some (24, 17, 1, 27, 0, []) ∧ kg_lks kg_cd43 kg_sp43 24 = some (27, 6, 2, 1, 0, []) ∧ kg_lks kg_cd43 kg_sp43 27 = some (30, 6, 3, 1, 0, []) ∧ kg_lks kg_cd43 kg_sp43 30 = some (33, 18, 0, 4, 0, []) ∧ kg_lks kg_cd43 kg_sp43 33 = some (34, 2, 2, 0, 0, []) ∧ kg_lks kg_cd43 kg_sp43 34 = some (35, 48, 0, 0, 0, []) := by refine ⟨?_, ?_, ?_, ?_, ?_, ?_, ?_, ?_, ?_, ?_, ?_, ?_, ?_, ?_, ?_, ?_, ?_, ?_, ?_, ?_, ?_⟩ <;> rfl
theorem kg_v43 {G : kg_G} (hL : G.2.2.2.2.2.1 < 2 ^ 31) {d N0 NX : Nat} (hd : 1 ≤ d) {K : kg_Qt} (f : Nat) {pc : Nat} {ls : List (Option Value)} {st : List Value} {w : kg_W} {M : kg_M} (h : kg_go G NX (kg_call G d NX) (kg_ret 1 NX K) kg_cd43 kg_sp43 (kg_P G d 43 4 N0 NX K) f pc ls st w M) : kg_P G d 43 4 N0 NX K pc ls st w M := kg_vgo hL hd kg_ok43 rfl rfl rfl rfl (fun e => by cases e) h
theorem kg_m43 {G : kg_G} {d NX : Nat} {K : kg_Qt} {args : List Value} {w : kg_W} {M : kg_M} (hal : args.length ≤ 4) (hw : w.1 ≤ NX) (h : kg_P G d 43 4 w.1 NX K 0 (kg_pad 4 args) [] w M) : kg_call G (d + 1) NX 43 args w M K := kg_P_call (by omega) rfl hal hw h
def kg_sp44 : List Nat := [4]
set_option maxRecDepth 100000 in
theorem kg_ls44 : kg_lks kg_cd44 kg_sp44 0 = some (1, 0, 0, 0, 0, []) ∧ kg_lks kg_cd44 kg_sp44 1 = some (2, 4, 2, 0, 0, []) ∧ kg_lks kg_cd44 kg_sp44 2 = some (3, 0, 0, 0, 0, []) ∧ kg_lks kg_cd44 kg_sp44 3 = some (4, 4, 3, 0, 0, []) ∧ kg_lks kg_cd44 kg_sp44 4 = none ∧ kg_lks kg_cd44 kg_sp44 5 = some (6, 0, 4, 0, 0, []) ∧ kg_lks kg_cd44 kg_sp44 6 = some (9, 17, 3, 27, 0, []) ∧ kg_lks kg_cd44 kg_sp44 9 = some (10, 3, 0, 0, 0, []) ∧ kg_lks kg_cd44 kg_sp44 10 = some (11, 2, 3, 0, 0, []) ∧ kg_lks kg_cd44 kg_sp44 11 = some (12, 2, 1, 0, 0, []) ∧ kg_lks kg_cd44 kg_sp44 12 = some (15, 39, 31, 3, 97, []) ∧ kg_lks kg_cd44 kg_sp44 15 = some (18, 16, 0, 21, 0, []) ∧ kg_lks kg_cd44 kg_sp44 18 = some (21, 6, 2, 1, 0, []) ∧ kg_lks kg_cd44 kg_sp44 21 = some (24, 6, 3, 1, 0, []) ∧ kg_lks kg_cd44 kg_sp44 24 = some (27, 18, 0, 4, 0, []) ∧ kg_lks kg_cd44 kg_sp44 27 = some (28, 2, 2, 0, 0, []) ∧ kg_lks kg_cd44 kg_sp44 28 = some (29, 48, 0, 0, 0, []) := by refine ⟨?_, ?_, ?_, ?_, ?_, ?_, ?_, ?_, ?_, ?_, ?_, ?_, ?_, ?_, ?_, ?_, ?_⟩ <;> rfl
theorem kg_v44 {G : kg_G} (hL : G.2.2.2.2.2.1 < 2 ^ 31) {d N0 NX : Nat} (hd : 1 ≤ d) {K : kg_Qt} (f : Nat) {pc : Nat} {ls : List (Option Value)} {st : List Value} {w : kg_W} {M : kg_M} (h : kg_go G NX (kg_call G d NX) (kg_ret 1 NX K) kg_cd44 kg_sp44 (kg_P G d 44 4 N0 NX K) f pc ls st w M) : kg_P G d 44 4 N0 NX K pc ls st w M := kg_vgo hL hd kg_ok44 rfl rfl rfl rfl (fun e => by cases e) h
theorem kg_m44 {G : kg_G} {d NX : Nat} {K : kg_Qt} {args : List Value} {w : kg_W} {M : kg_M} (hal : args.length ≤ 4) (hw : w.1 ≤ NX) (h : kg_P G d 44 4 w.1 NX K 0 (kg_pad 4 args) [] w M) : kg_call G (d + 1) NX 44 args w M K := kg_P_call (by omega) rfl hal hw h
def kg_sp45 : List Nat := [13]
set_option maxRecDepth 100000 in
theorem kg_ls45 : kg_lks kg_cd45 kg_sp45 0 = some (1, 3, 0, 0, 0, []) ∧ kg_lks kg_cd45 kg_sp45 1 = some (2, 2, 1, 0, 0, []) ∧ kg_lks kg_cd45 kg_sp45 2 = some (3, 2, 2, 0, 0, []) ∧ kg_lks kg_cd45 kg_sp45 3 = some (6, 39, 32, 3, 144, []) ∧ kg_lks kg_cd45 kg_sp45 6 = some (9, 16, 1, 11, 0, []) ∧ kg_lks kg_cd45 kg_sp45 9 = some (10, 0, 0, 0, 0, []) ∧ kg_lks kg_cd45 kg_sp45 10 = some (11, 48, 0, 0, 0, []) ∧ kg_lks kg_cd45 kg_sp45 11 = some (12, 0, 0, 0, 0, []) ∧ kg_lks kg_cd45 kg_sp45 12 = some (13, 4, 3, 0, 0, []) ∧ kg_lks kg_cd45 kg_sp45 13 = none ∧ kg_lks kg_cd45 kg_sp45 14 = some (15, 0, 4, 0, 0, []) ∧ kg_lks kg_cd45 kg_sp45 15 = some (18, 17, 3, 41, 0, []) ∧ kg_lks kg_cd45 kg_sp45 18 = some (19, 3, 0, 0, 0, []) ∧ kg_lks kg_cd45 kg_sp45 19 = some (20, 2, 3, 0, 0, []) ∧ kg_lks kg_cd45 kg_sp45 20 = some (21, 2, 2, 0, 0, []) ∧ kg_lks kg_cd45 kg_sp45 21 = some (24, 39, 27, 3, 87, []) ∧ kg_lks kg_cd45 kg_sp45 24 = some (25, 3, 0, 0, 0, []) ∧ kg_lks kg_cd45 kg_sp45 25 = some (26, 2, 1, 0, 0, []) ∧ kg_lks kg_cd45 kg_sp45 26 = some (27, 2, 2, 0, 0, []) ∧ kg_lks kg_cd45 kg_sp45 27 = some (30, 39, 27, 3, 87, []) ∧ kg_lks kg_cd45 kg_sp45 30 = some (33, 17, 3, 35, 0, []) ∧ kg_lks kg_cd45 kg_sp45 33 = some (34, 0, 0, 0, 0, []) ∧ kg_lks kg_cd45 kg_sp45 34 = some (35, 48, 0, 0, 0, []) ∧ kg_lks kg_cd45 kg_sp45 35 = some (38, 6, 3, 1, 0, []) ∧ kg_lks kg_cd45 kg_sp45 38 = some (41, 18, 0, 13, 0, []) ∧ kg_lks kg_cd45 kg_sp45 41 = some (42, 0, 1, 0, 0, []) ∧ kg_lks kg_cd45 kg_sp45 42 = some (43, 48, 0, 0, 0, []) := by refine ⟨?_, ?_, ?_, ?_, ?_, ?_, ?_, ?_, ?_, ?_, ?_, ?_, ?_, ?_, ?_, ?_, ?_, ?_, ?_, ?_, ?_, ?_, ?_, ?_, ?_, ?_, ?_⟩ <;> rfl
theorem kg_v45 {G : kg_G} (hL : G.2.2.2.2.2.1 < 2 ^ 31) {d N0 NX : Nat} (hd : 1 ≤ d) {K : kg_Qt} (f : Nat) {pc : Nat} {ls : List (Option Value)} {st : List Value} {w : kg_W} {M : kg_M} (h : kg_go G NX (kg_call G d NX) (kg_ret 2 NX K) kg_cd45 kg_sp45 (kg_P G d 45 4 N0 NX K) f pc ls st w M) : kg_P G d 45 4 N0 NX K pc ls st w M := kg_vgo hL hd kg_ok45 rfl rfl rfl rfl (fun e => by cases e) h
theorem kg_m45 {G : kg_G} {d NX : Nat} {K : kg_Qt} {args : List Value} {w : kg_W} {M : kg_M} (hal : args.length ≤ 4) (hw : w.1 ≤ NX) (h : kg_P G d 45 4 w.1 NX K 0 (kg_pad 4 args) [] w M) : kg_call G (d + 1) NX 45 args w M K := kg_P_call (by omega) rfl hal hw h
def kg_sp46 : List Nat := [5]
set_option maxRecDepth 100000 in
theorem kg_ls46 : kg_lks kg_cd46 kg_sp46 0 = some (1, 0, 0, 0, 0, []) ∧ kg_lks kg_cd46 kg_sp46 1 = some (2, 4, 3, 0, 0, []) ∧ kg_lks kg_cd46 kg_sp46 2 = some (3, 0, 0, 0, 0, []) ∧ kg_lks kg_cd46 kg_sp46 3 = some (5, 4, 4, 0, 0, []) ∧ kg_lks kg_cd46 kg_sp46 5 = none ∧ kg_lks kg_cd46 kg_sp46 7 = some (9, 0, 8, 0, 0, []) ∧ kg_lks kg_cd46 kg_sp46 9 = some (12, 17, 3, 38, 0, []) ∧ kg_lks kg_cd46 kg_sp46 12 = some (13, 3, 0, 0, 0, []) ∧ kg_lks kg_cd46 kg_sp46 13 = some (16, 22, 4, 4, 29, []) ∧ kg_lks kg_cd46 kg_sp46 16 = some (17, 2, 1, 0, 0, []) ∧ kg_lks kg_cd46 kg_sp46 17 = some (19, 2, 4, 0, 0, []) ∧ kg_lks kg_cd46 kg_sp46 19 = some (22, 41, 64, 2, 75, []) ∧ kg_lks kg_cd46 kg_sp46 22 = some (25, 39, 7, 2, 139, []) ∧ kg_lks kg_cd46 kg_sp46 25 = some (26, 2, 2, 0, 0, []) ∧ kg_lks kg_cd46 kg_sp46 26 = some (29, 17, 1, 32, 0, []) ∧ kg_lks kg_cd46 kg_sp46 29 = some (32, 6, 3, 1, 0, []) ∧ kg_lks kg_cd46 kg_sp46 32 = some (35, 6, 4, 1, 0, []) ∧ kg_lks kg_cd46 kg_sp46 35 = some (38, 18, 0, 5, 0, []) ∧ kg_lks kg_cd46 kg_sp46 38 = some (39, 2, 3, 0, 0, []) ∧ kg_lks kg_cd46 kg_sp46 39 = some (40, 48, 0, 0, 0, []) := by refine ⟨?_, ?_, ?_, ?_, ?_, ?_, ?_, ?_, ?_, ?_, ?_, ?_, ?_, ?_, ?_, ?_, ?_, ?_, ?_, ?_⟩ <;> rfl
theorem kg_v46 {G : kg_G} (hL : G.2.2.2.2.2.1 < 2 ^ 31) {d N0 NX : Nat} (hd : 1 ≤ d) {K : kg_Qt} (f : Nat) {pc : Nat} {ls : List (Option Value)} {st : List Value} {w : kg_W} {M : kg_M} (h : kg_go G NX (kg_call G d NX) (kg_ret 1 NX K) kg_cd46 kg_sp46 (kg_P G d 46 5 N0 NX K) f pc ls st w M) : kg_P G d 46 5 N0 NX K pc ls st w M := kg_vgo hL hd kg_ok46 rfl rfl rfl rfl (fun e => by cases e) h
theorem kg_m46 {G : kg_G} {d NX : Nat} {K : kg_Qt} {args : List Value} {w : kg_W} {M : kg_M} (hal : args.length ≤ 5) (hw : w.1 ≤ NX) (h : kg_P G d 46 5 w.1 NX K 0 (kg_pad 5 args) [] w M) : kg_call G (d + 1) NX 46 args w M K := kg_P_call (by omega) rfl hal hw h
def kg_sp47 : List Nat := [4]
set_option maxRecDepth 100000 in
theorem kg_ls47 : kg_lks kg_cd47 kg_sp47 0 = some (1, 0, 0, 0, 0, []) ∧ kg_lks kg_cd47 kg_sp47 1 = some (2, 4, 2, 0, 0, []) ∧ kg_lks kg_cd47 kg_sp47 2 = some (3, 0, 0, 0, 0, []) ∧ kg_lks kg_cd47 kg_sp47 3 = some (4, 4, 3, 0, 0, []) ∧ kg_lks kg_cd47 kg_sp47 4 = none ∧ kg_lks kg_cd47 kg_sp47 5 = some (7, 0, 8, 0, 0, []) ∧ kg_lks kg_cd47 kg_sp47 7 = some (10, 17, 3, 28, 0, []) ∧ kg_lks kg_cd47 kg_sp47 10 = some (11, 3, 0, 0, 0, []) ∧ kg_lks kg_cd47 kg_sp47 11 = some (12, 2, 1, 0, 0, []) ∧ kg_lks kg_cd47 kg_sp47 12 = some (13, 2, 3, 0, 0, []) ∧ kg_lks kg_cd47 kg_sp47 13 = some (16, 39, 38, 3, 150, []) ∧ kg_lks kg_cd47 kg_sp47 16 = some (19, 16, 0, 22, 0, []) ∧ kg_lks kg_cd47 kg_sp47 19 = some (22, 6, 2, 1, 0, []) ∧ kg_lks kg_cd47 kg_sp47 22 = some (25, 6, 3, 1, 0, []) ∧ kg_lks kg_cd47 kg_sp47 25 = some (28, 18, 0, 4, 0, []) ∧ kg_lks kg_cd47 kg_sp47 28 = some (29, 2, 2, 0, 0, []) ∧ kg_lks kg_cd47 kg_sp47 29 = some (30, 48, 0, 0, 0, []) := by refine ⟨?_, ?_, ?_, ?_, ?_, ?_, ?_, ?_, ?_, ?_, ?_, ?_, ?_, ?_, ?_, ?_, ?_⟩ <;> rfl
theorem kg_v47 {G : kg_G} (hL : G.2.2.2.2.2.1 < 2 ^ 31) {d N0 NX : Nat} (hd : 1 ≤ d) {K : kg_Qt} (f : Nat) {pc : Nat} {ls : List (Option Value)} {st : List Value} {w : kg_W} {M : kg_M} (h : kg_go G NX (kg_call G d NX) (kg_ret 1 NX K) kg_cd47 kg_sp47 (kg_P G d 47 4 N0 NX K) f pc ls st w M) : kg_P G d 47 4 N0 NX K pc ls st w M := kg_vgo hL hd kg_ok47 rfl rfl rfl rfl (fun e => by cases e) h
theorem kg_m47 {G : kg_G} {d NX : Nat} {K : kg_Qt} {args : List Value} {w : kg_W} {M : kg_M} (hal : args.length ≤ 4) (hw : w.1 ≤ NX) (h : kg_P G d 47 4 w.1 NX K 0 (kg_pad 4 args) [] w M) : kg_call G (d + 1) NX 47 args w M K := kg_P_call (by omega) rfl hal hw h
def kg_sp48 : List Nat := [4]
set_option maxRecDepth 100000 in
theorem kg_ls48 : kg_lks kg_cd48 kg_sp48 0 = some (1, 0, 0, 0, 0, []) ∧ kg_lks kg_cd48 kg_sp48 1 = some (2, 4, 2, 0, 0, []) ∧ kg_lks kg_cd48 kg_sp48 2 = some (3, 0, 0, 0, 0, []) ∧ kg_lks kg_cd48 kg_sp48 3 = some (4, 4, 3, 0, 0, []) ∧ kg_lks kg_cd48 kg_sp48 4 = none ∧ kg_lks kg_cd48 kg_sp48 5 = some (7, 0, 8, 0, 0, []) ∧ kg_lks kg_cd48 kg_sp48 7 = some (10, 17, 3, 28, 0, []) ∧ kg_lks kg_cd48 kg_sp48 10 = some (11, 3, 0, 0, 0, []) ∧ kg_lks kg_cd48 kg_sp48 11 = some (12, 2, 1, 0, 0, []) ∧ kg_lks kg_cd48 kg_sp48 12 = some (13, 2, 3, 0, 0, []) ∧ kg_lks kg_cd48 kg_sp48 13 = some (16, 39, 31, 3, 97, []) ∧ kg_lks kg_cd48 kg_sp48 16 = some (19, 16, 0, 22, 0, []) ∧ kg_lks kg_cd48 kg_sp48 19 = some (22, 6, 2, 1, 0, []) ∧ kg_lks kg_cd48 kg_sp48 22 = some (25, 6, 3, 1, 0, []) ∧ kg_lks kg_cd48 kg_sp48 25 = some (28, 18, 0, 4, 0, []) ∧ kg_lks kg_cd48 kg_sp48 28 = some (29, 2, 2, 0, 0, []) ∧ kg_lks kg_cd48 kg_sp48 29 = some (30, 48, 0, 0, 0, []) := by refine ⟨?_, ?_, ?_, ?_, ?_, ?_, ?_, ?_, ?_, ?_, ?_, ?_, ?_, ?_, ?_, ?_, ?_⟩ <;> rfl
theorem kg_v48 {G : kg_G} (hL : G.2.2.2.2.2.1 < 2 ^ 31) {d N0 NX : Nat} (hd : 1 ≤ d) {K : kg_Qt} (f : Nat) {pc : Nat} {ls : List (Option Value)} {st : List Value} {w : kg_W} {M : kg_M} (h : kg_go G NX (kg_call G d NX) (kg_ret 1 NX K) kg_cd48 kg_sp48 (kg_P G d 48 4 N0 NX K) f pc ls st w M) : kg_P G d 48 4 N0 NX K pc ls st w M := kg_vgo hL hd kg_ok48 rfl rfl rfl rfl (fun e => by cases e) h
theorem kg_m48 {G : kg_G} {d NX : Nat} {K : kg_Qt} {args : List Value} {w : kg_W} {M : kg_M} (hal : args.length ≤ 4) (hw : w.1 ≤ NX) (h : kg_P G d 48 4 w.1 NX K 0 (kg_pad 4 args) [] w M) : kg_call G (d + 1) NX 48 args w M K := kg_P_call (by omega) rfl hal hw h
def kg_sp49 : List Nat := [6, 16]
set_option maxRecDepth 100000 in
theorem kg_ls49 : kg_lks kg_cd49 kg_sp49 0 = some (1, 0, 0, 0, 0, []) ∧ kg_lks kg_cd49 kg_sp49 1 = some (2, 4, 1, 0, 0, []) ∧ kg_lks kg_cd49 kg_sp49 2 = some (3, 0, 1, 0, 0, []) ∧ kg_lks kg_cd49 kg_sp49 3 = some (4, 4, 2, 0, 0, []) ∧ kg_lks kg_cd49 kg_sp49 4 = some (5, 0, 0, 0, 0, []) ∧ kg_lks kg_cd49 kg_sp49 5 = some (6, 4, 3, 0, 0, []) ∧ kg_lks kg_cd49 kg_sp49 6 = none ∧ kg_lks kg_cd49 kg_sp49 7 = some (8, 0, 4, 0, 0, []) ∧ kg_lks kg_cd49 kg_sp49 8 = some (11, 17, 3, 67, 0, []) ∧ kg_lks kg_cd49 kg_sp49 11 = some (12, 2, 3, 0, 0, []) ∧ kg_lks kg_cd49 kg_sp49 12 = some (13, 0, 1, 0, 0, []) ∧ kg_lks kg_cd49 kg_sp49 13 = some (14, 7, 0, 0, 0, []) ∧ kg_lks kg_cd49 kg_sp49 14 = some (16, 4, 4, 0, 0, []) ∧ kg_lks kg_cd49 kg_sp49 16 = none ∧ kg_lks kg_cd49 kg_sp49 18 = some (19, 0, 4, 0, 0, []) ∧ kg_lks kg_cd49 kg_sp49 19 = some (22, 17, 3, 61, 0, []) ∧ kg_lks kg_cd49 kg_sp49 22 = some (23, 3, 0, 0, 0, []) ∧ kg_lks kg_cd49 kg_sp49 23 = some (26, 22, 4, 5, 33, []) ∧ kg_lks kg_cd49 kg_sp49 26 = some (27, 2, 1, 0, 0, []) ∧ kg_lks kg_cd49 kg_sp49 27 = some (28, 2, 2, 0, 0, []) ∧ kg_lks kg_cd49 kg_sp49 28 = some (31, 41, 68, 2, 110, []) ∧ kg_lks kg_cd49 kg_sp49 31 = some (32, 27, 0, 0, 0, []) ∧ kg_lks kg_cd49 kg_sp49 32 = some (34, 4, 5, 0, 0, []) ∧ kg_lks kg_cd49 kg_sp49 34 = some (35, 3, 0, 0, 0, []) ∧ kg_lks kg_cd49 kg_sp49 35 = some (38, 22, 4, 5, 33, []) ∧ kg_lks kg_cd49 kg_sp49 38 = some (39, 2, 3, 0, 0, []) ∧ kg_lks kg_cd49 kg_sp49 39 = some (41, 2, 4, 0, 0, []) ∧ kg_lks kg_cd49 kg_sp49 41 = some (44, 41, 68, 2, 110, []) ∧ kg_lks kg_cd49 kg_sp49 44 = some (45, 27, 0, 0, 0, []) ∧ kg_lks kg_cd49 kg_sp49 45 = some (47, 2, 5, 0, 0, []) ∧ kg_lks kg_cd49 kg_sp49 47 = some (50, 17, 3, 55, 0, []) ∧ kg_lks kg_cd49 kg_sp49 50 = some (51, 2, 3, 0, 0, []) ∧ kg_lks kg_cd49 kg_sp49 51 = some (52, 4, 1, 0, 0, []) ∧ kg_lks kg_cd49 kg_sp49 52 = some (54, 2, 4, 0, 0, []) ∧ kg_lks kg_cd49 kg_sp49 54 = some (55, 4, 2, 0, 0, []) ∧ kg_lks kg_cd49 kg_sp49 55 = some (58, 6, 4, 1, 0, []) ∧ kg_lks kg_cd49 kg_sp49 58 = some (61, 18, 0, 16, 0, []) ∧ kg_lks kg_cd49 kg_sp49 61 = some (64, 6, 3, 1, 0, []) ∧ kg_lks kg_cd49 kg_sp49 64 = some (67, 18, 0, 6, 0, []) ∧ kg_lks kg_cd49 kg_sp49 67 = some (68, 2, 1, 0, 0, []) ∧ kg_lks kg_cd49 kg_sp49 68 = some (69, 0, 4, 0, 0, []) ∧ kg_lks kg_cd49 kg_sp49 69 = some (70, 9, 0, 0, 0, []) ∧ kg_lks kg_cd49 kg_sp49 70 = some (71, 2, 2, 0, 0, []) ∧ kg_lks kg_cd49 kg_sp49 71 = some (72, 7, 0, 0, 0, []) ∧ kg_lks kg_cd49 kg_sp49 72 = some (73, 48, 0, 0, 0, []) := by refine ⟨?_, ?_, ?_, ?_, ?_, ?_, ?_, ?_, ?_, ?_, ?_, ?_, ?_, ?_, ?_, ?_, ?_, ?_, ?_, ?_, ?_, ?_, ?_, ?_, ?_, ?_, ?_, ?_, ?_, ?_, ?_, ?_, ?_, ?_, ?_, ?_, ?_, ?_, ?_, ?_, ?_, ?_, ?_, ?_, ?_⟩ <;> rfl
theorem kg_v49 {G : kg_G} (hL : G.2.2.2.2.2.1 < 2 ^ 31) {d N0 NX : Nat} (hd : 1 ≤ d) {K : kg_Qt} (f : Nat) {pc : Nat} {ls : List (Option Value)} {st : List Value} {w : kg_W} {M : kg_M} (h : kg_go G NX (kg_call G d NX) (kg_ret 1 NX K) kg_cd49 kg_sp49 (kg_P G d 49 6 N0 NX K) f pc ls st w M) : kg_P G d 49 6 N0 NX K pc ls st w M := kg_vgo hL hd kg_ok49 rfl rfl rfl rfl (fun e => by cases e) h
theorem kg_m49 {G : kg_G} {d NX : Nat} {K : kg_Qt} {args : List Value} {w : kg_W} {M : kg_M} (hal : args.length ≤ 6) (hw : w.1 ≤ NX) (h : kg_P G d 49 6 w.1 NX K 0 (kg_pad 6 args) [] w M) : kg_call G (d + 1) NX 49 args w M K := kg_P_call (by omega) rfl hal hw h
def kg_sp50 : List Nat := [4, 11]
set_option maxRecDepth 100000 in
theorem kg_ls50 : kg_lks kg_cd50 kg_sp50 0 = some (1, 0, 1, 0, 0, []) ∧ kg_lks kg_cd50 kg_sp50 1 = some (2, 4, 1, 0, 0, []) ∧ kg_lks kg_cd50 kg_sp50 2 = some (3, 0, 0, 0, 0, []) ∧ kg_lks kg_cd50 kg_sp50 3 = some (4, 4, 2, 0, 0, []) ∧ kg_lks kg_cd50 kg_sp50 4 = none ∧ kg_lks kg_cd50 kg_sp50 5 = some (6, 0, 4, 0, 0, []) ∧ kg_lks kg_cd50 kg_sp50 6 = some (9, 17, 3, 51, 0, []) ∧ kg_lks kg_cd50 kg_sp50 9 = some (10, 0, 0, 0, 0, []) ∧ kg_lks kg_cd50 kg_sp50 10 = some (11, 4, 3, 0, 0, []) ∧ kg_lks kg_cd50 kg_sp50 11 = none ∧ kg_lks kg_cd50 kg_sp50 12 = some (14, 0, 8, 0, 0, []) ∧ kg_lks kg_cd50 kg_sp50 14 = some (17, 17, 3, 45, 0, []) ∧ kg_lks kg_cd50 kg_sp50 17 = some (18, 3, 0, 0, 0, []) ∧ kg_lks kg_cd50 kg_sp50 18 = some (19, 2, 2, 0, 0, []) ∧ kg_lks kg_cd50 kg_sp50 19 = some (20, 2, 3, 0, 0, []) ∧ kg_lks kg_cd50 kg_sp50 20 = some (23, 39, 51, 3, 169, []) ∧ kg_lks kg_cd50 kg_sp50 23 = some (26, 16, 0, 39, 0, []) ∧ kg_lks kg_cd50 kg_sp50 26 = some (27, 2, 1, 0, 0, []) ∧ kg_lks kg_cd50 kg_sp50 27 = some (28, 3, 0, 0, 0, []) ∧ kg_lks kg_cd50 kg_sp50 28 = some (29, 2, 2, 0, 0, []) ∧ kg_lks kg_cd50 kg_sp50 29 = some (30, 2, 3, 0, 0, []) ∧ kg_lks kg_cd50 kg_sp50 30 = some (33, 39, 39, 3, 147, []) ∧ kg_lks kg_cd50 kg_sp50 33 = some (34, 0, 1, 0, 0, []) ∧ kg_lks kg_cd50 kg_sp50 34 = some (35, 7, 0, 0, 0, []) ∧ kg_lks kg_cd50 kg_sp50 35 = some (38, 46, 0, 0, 121, []) ∧ kg_lks kg_cd50 kg_sp50 38 = some (39, 4, 1, 0, 0, []) ∧ kg_lks kg_cd50 kg_sp50 39 = some (42, 6, 3, 1, 0, []) ∧ kg_lks kg_cd50 kg_sp50 42 = some (45, 18, 0, 11, 0, []) ∧ kg_lks kg_cd50 kg_sp50 45 = some (48, 6, 2, 1, 0, []) ∧ kg_lks kg_cd50 kg_sp50 48 = some (51, 18, 0, 4, 0, []) ∧ kg_lks kg_cd50 kg_sp50 51 = some (52, 2, 1, 0, 0, []) ∧ kg_lks kg_cd50 kg_sp50 52 = some (53, 48, 0, 0, 0, []) := by refine ⟨?_, ?_, ?_, ?_, ?_, ?_, ?_, ?_, ?_, ?_, ?_, ?_, ?_, ?_, ?_, ?_, ?_, ?_, ?_, ?_, ?_, ?_, ?_, ?_, ?_, ?_, ?_, ?_, ?_, ?_, ?_, ?_⟩ <;> rfl
theorem kg_v50 {G : kg_G} (hL : G.2.2.2.2.2.1 < 2 ^ 31) {d N0 NX : Nat} (hd : 1 ≤ d) {K : kg_Qt} (f : Nat) {pc : Nat} {ls : List (Option Value)} {st : List Value} {w : kg_W} {M : kg_M} (h : kg_go G NX (kg_call G d NX) (kg_ret 1 NX K) kg_cd50 kg_sp50 (kg_P G d 50 4 N0 NX K) f pc ls st w M) : kg_P G d 50 4 N0 NX K pc ls st w M := kg_vgo hL hd kg_ok50 rfl rfl rfl rfl (fun e => by cases e) h
theorem kg_m50 {G : kg_G} {d NX : Nat} {K : kg_Qt} {args : List Value} {w : kg_W} {M : kg_M} (hal : args.length ≤ 4) (hw : w.1 ≤ NX) (h : kg_P G d 50 4 w.1 NX K 0 (kg_pad 4 args) [] w M) : kg_call G (d + 1) NX 50 args w M K := kg_P_call (by omega) rfl hal hw h
def kg_sp51 : List Nat := []
set_option maxRecDepth 100000 in
theorem kg_ls51 : kg_lks kg_cd51 kg_sp51 0 = some (1, 3, 0, 0, 0, []) ∧ kg_lks kg_cd51 kg_sp51 1 = some (2, 2, 1, 0, 0, []) ∧ kg_lks kg_cd51 kg_sp51 2 = some (3, 2, 2, 0, 0, []) ∧ kg_lks kg_cd51 kg_sp51 3 = some (6, 39, 32, 3, 144, []) ∧ kg_lks kg_cd51 kg_sp51 6 = some (9, 16, 0, 22, 0, []) ∧ kg_lks kg_cd51 kg_sp51 9 = some (10, 3, 0, 0, 0, []) ∧ kg_lks kg_cd51 kg_sp51 10 = some (11, 2, 1, 0, 0, []) ∧ kg_lks kg_cd51 kg_sp51 11 = some (12, 2, 2, 0, 0, []) ∧ kg_lks kg_cd51 kg_sp51 12 = some (15, 39, 45, 3, 166, []) ∧ kg_lks kg_cd51 kg_sp51 15 = some (18, 16, 1, 22, 0, []) ∧ kg_lks kg_cd51 kg_sp51 18 = some (19, 0, 1, 0, 0, []) ∧ kg_lks kg_cd51 kg_sp51 19 = some (22, 18, 0, 23, 0, []) ∧ kg_lks kg_cd51 kg_sp51 22 = some (23, 0, 0, 0, 0, []) ∧ kg_lks kg_cd51 kg_sp51 23 = some (24, 48, 0, 0, 0, []) := by refine ⟨?_, ?_, ?_, ?_, ?_, ?_, ?_, ?_, ?_, ?_, ?_, ?_, ?_, ?_⟩ <;> rfl
theorem kg_v51 {G : kg_G} (hL : G.2.2.2.2.2.1 < 2 ^ 31) {d N0 NX : Nat} (hd : 1 ≤ d) {K : kg_Qt} (f : Nat) {pc : Nat} {ls : List (Option Value)} {st : List Value} {w : kg_W} {M : kg_M} (h : kg_go G NX (kg_call G d NX) (kg_ret 2 NX K) kg_cd51 kg_sp51 (kg_P G d 51 3 N0 NX K) f pc ls st w M) : kg_P G d 51 3 N0 NX K pc ls st w M := kg_vgo hL hd kg_ok51 rfl rfl rfl rfl (fun e => by cases e) h
theorem kg_m51 {G : kg_G} {d NX : Nat} {K : kg_Qt} {args : List Value} {w : kg_W} {M : kg_M} (hal : args.length ≤ 3) (hw : w.1 ≤ NX) (h : kg_P G d 51 3 w.1 NX K 0 (kg_pad 3 args) [] w M) : kg_call G (d + 1) NX 51 args w M K := kg_P_call (by omega) rfl hal hw h
def kg_sp52 : List Nat := [4]
set_option maxRecDepth 100000 in
theorem kg_ls52 : kg_lks kg_cd52 kg_sp52 0 = some (1, 0, 0, 0, 0, []) ∧ kg_lks kg_cd52 kg_sp52 1 = some (2, 4, 1, 0, 0, []) ∧ kg_lks kg_cd52 kg_sp52 2 = some (3, 0, 0, 0, 0, []) ∧ kg_lks kg_cd52 kg_sp52 3 = some (4, 4, 2, 0, 0, []) ∧ kg_lks kg_cd52 kg_sp52 4 = none ∧ kg_lks kg_cd52 kg_sp52 5 = some (6, 0, 4, 0, 0, []) ∧ kg_lks kg_cd52 kg_sp52 6 = some (9, 17, 3, 24, 0, []) ∧ kg_lks kg_cd52 kg_sp52 9 = some (10, 2, 1, 0, 0, []) ∧ kg_lks kg_cd52 kg_sp52 10 = some (11, 3, 0, 0, 0, []) ∧ kg_lks kg_cd52 kg_sp52 11 = some (12, 2, 2, 0, 0, []) ∧ kg_lks kg_cd52 kg_sp52 12 = some (13, 0, 2, 0, 0, []) ∧ kg_lks kg_cd52 kg_sp52 13 = some (16, 39, 46, 3, 178, []) ∧ kg_lks kg_cd52 kg_sp52 16 = some (17, 7, 0, 0, 0, []) ∧ kg_lks kg_cd52 kg_sp52 17 = some (18, 4, 1, 0, 0, []) ∧ kg_lks kg_cd52 kg_sp52 18 = some (21, 6, 2, 1, 0, []) ∧ kg_lks kg_cd52 kg_sp52 21 = some (24, 18, 0, 4, 0, []) ∧ kg_lks kg_cd52 kg_sp52 24 = some (25, 2, 1, 0, 0, []) ∧ kg_lks kg_cd52 kg_sp52 25 = some (26, 48, 0, 0, 0, []) := by refine ⟨?_, ?_, ?_, ?_, ?_, ?_, ?_, ?_, ?_, ?_, ?_, ?_, ?_, ?_, ?_, ?_, ?_, ?_⟩ <;> rfl
theorem kg_v52 {G : kg_G} (hL : G.2.2.2.2.2.1 < 2 ^ 31) {d N0 NX : Nat} (hd : 1 ≤ d) {K : kg_Qt} (f : Nat) {pc : Nat} {ls : List (Option Value)} {st : List Value} {w : kg_W} {M : kg_M} (h : kg_go G NX (kg_call G d NX) (kg_ret 1 NX K) kg_cd52 kg_sp52 (kg_P G d 52 3 N0 NX K) f pc ls st w M) : kg_P G d 52 3 N0 NX K pc ls st w M := kg_vgo hL hd kg_ok52 rfl rfl rfl rfl (fun e => by cases e) h
theorem kg_m52 {G : kg_G} {d NX : Nat} {K : kg_Qt} {args : List Value} {w : kg_W} {M : kg_M} (hal : args.length ≤ 3) (hw : w.1 ≤ NX) (h : kg_P G d 52 3 w.1 NX K 0 (kg_pad 3 args) [] w M) : kg_call G (d + 1) NX 52 args w M K := kg_P_call (by omega) rfl hal hw h
def kg_sp53 : List Nat := [4]
set_option maxRecDepth 100000 in
theorem kg_ls53 : kg_lks kg_cd53 kg_sp53 0 = some (1, 0, 0, 0, 0, []) ∧ kg_lks kg_cd53 kg_sp53 1 = some (2, 4, 1, 0, 0, []) ∧ kg_lks kg_cd53 kg_sp53 2 = some (3, 0, 0, 0, 0, []) ∧ kg_lks kg_cd53 kg_sp53 3 = some (4, 4, 2, 0, 0, []) ∧ kg_lks kg_cd53 kg_sp53 4 = none ∧ kg_lks kg_cd53 kg_sp53 5 = some (7, 0, 8, 0, 0, []) ∧ kg_lks kg_cd53 kg_sp53 7 = some (10, 17, 3, 27, 0, []) ∧ kg_lks kg_cd53 kg_sp53 10 = some (11, 3, 0, 0, 0, []) ∧ kg_lks kg_cd53 kg_sp53 11 = some (12, 2, 2, 0, 0, []) ∧ kg_lks kg_cd53 kg_sp53 12 = some (15, 39, 44, 2, 175, []) ∧ kg_lks kg_cd53 kg_sp53 15 = some (18, 16, 5, 21, 0, []) ∧ kg_lks kg_cd53 kg_sp53 18 = some (21, 6, 1, 1, 0, []) ∧ kg_lks kg_cd53 kg_sp53 21 = some (24, 6, 2, 1, 0, []) ∧ kg_lks kg_cd53 kg_sp53 24 = some (27, 18, 0, 4, 0, []) ∧ kg_lks kg_cd53 kg_sp53 27 = some (28, 2, 1, 0, 0, []) ∧ kg_lks kg_cd53 kg_sp53 28 = some (29, 48, 0, 0, 0, []) := by refine ⟨?_, ?_, ?_, ?_, ?_, ?_, ?_, ?_, ?_, ?_, ?_, ?_, ?_, ?_, ?_, ?_⟩ <;> rfl
theorem kg_v53 {G : kg_G} (hL : G.2.2.2.2.2.1 < 2 ^ 31) {d N0 NX : Nat} (hd : 1 ≤ d) {K : kg_Qt} (f : Nat) {pc : Nat} {ls : List (Option Value)} {st : List Value} {w : kg_W} {M : kg_M} (h : kg_go G NX (kg_call G d NX) (kg_ret 1 NX K) kg_cd53 kg_sp53 (kg_P G d 53 3 N0 NX K) f pc ls st w M) : kg_P G d 53 3 N0 NX K pc ls st w M := kg_vgo hL hd kg_ok53 rfl rfl rfl rfl (fun e => by cases e) h
theorem kg_m53 {G : kg_G} {d NX : Nat} {K : kg_Qt} {args : List Value} {w : kg_W} {M : kg_M} (hal : args.length ≤ 3) (hw : w.1 ≤ NX) (h : kg_P G d 53 3 w.1 NX K 0 (kg_pad 3 args) [] w M) : kg_call G (d + 1) NX 53 args w M K := kg_P_call (by omega) rfl hal hw h
def kg_sp54 : List Nat := [4, 11]
set_option maxRecDepth 100000 in
theorem kg_ls54 : kg_lks kg_cd54 kg_sp54 0 = some (1, 0, 0, 0, 0, []) ∧ kg_lks kg_cd54 kg_sp54 1 = some (2, 4, 1, 0, 0, []) ∧ kg_lks kg_cd54 kg_sp54 2 = some (3, 0, 0, 0, 0, []) ∧ kg_lks kg_cd54 kg_sp54 3 = some (4, 4, 2, 0, 0, []) ∧ kg_lks kg_cd54 kg_sp54 4 = none ∧ kg_lks kg_cd54 kg_sp54 5 = some (6, 0, 4, 0, 0, []) ∧ kg_lks kg_cd54 kg_sp54 6 = some (9, 17, 3, 50, 0, []) ∧ kg_lks kg_cd54 kg_sp54 9 = some (10, 0, 0, 0, 0, []) ∧ kg_lks kg_cd54 kg_sp54 10 = some (11, 4, 3, 0, 0, []) ∧ kg_lks kg_cd54 kg_sp54 11 = none ∧ kg_lks kg_cd54 kg_sp54 12 = some (14, 0, 8, 0, 0, []) ∧ kg_lks kg_cd54 kg_sp54 14 = some (17, 17, 3, 44, 0, []) ∧ kg_lks kg_cd54 kg_sp54 17 = some (18, 3, 0, 0, 0, []) ∧ kg_lks kg_cd54 kg_sp54 18 = some (19, 2, 2, 0, 0, []) ∧ kg_lks kg_cd54 kg_sp54 19 = some (20, 2, 3, 0, 0, []) ∧ kg_lks kg_cd54 kg_sp54 20 = some (23, 39, 51, 3, 169, []) ∧ kg_lks kg_cd54 kg_sp54 23 = some (26, 16, 0, 38, 0, []) ∧ kg_lks kg_cd54 kg_sp54 26 = some (27, 3, 0, 0, 0, []) ∧ kg_lks kg_cd54 kg_sp54 27 = some (28, 2, 2, 0, 0, []) ∧ kg_lks kg_cd54 kg_sp54 28 = some (29, 2, 3, 0, 0, []) ∧ kg_lks kg_cd54 kg_sp54 29 = some (32, 39, 55, 3, 172, []) ∧ kg_lks kg_cd54 kg_sp54 32 = some (35, 16, 1, 38, 0, []) ∧ kg_lks kg_cd54 kg_sp54 35 = some (38, 6, 1, 1, 0, []) ∧ kg_lks kg_cd54 kg_sp54 38 = some (41, 6, 3, 1, 0, []) ∧ kg_lks kg_cd54 kg_sp54 41 = some (44, 18, 0, 11, 0, []) ∧ kg_lks kg_cd54 kg_sp54 44 = some (47, 6, 2, 1, 0, []) ∧ kg_lks kg_cd54 kg_sp54 47 = some (50, 18, 0, 4, 0, []) ∧ kg_lks kg_cd54 kg_sp54 50 = some (51, 2, 1, 0, 0, []) ∧ kg_lks kg_cd54 kg_sp54 51 = some (52, 48, 0, 0, 0, []) := by refine ⟨?_, ?_, ?_, ?_, ?_, ?_, ?_, ?_, ?_, ?_, ?_, ?_, ?_, ?_, ?_, ?_, ?_, ?_, ?_, ?_, ?_, ?_, ?_, ?_, ?_, ?_, ?_, ?_, ?_⟩ <;> rfl
theorem kg_v54 {G : kg_G} (hL : G.2.2.2.2.2.1 < 2 ^ 31) {d N0 NX : Nat} (hd : 1 ≤ d) {K : kg_Qt} (f : Nat) {pc : Nat} {ls : List (Option Value)} {st : List Value} {w : kg_W} {M : kg_M} (h : kg_go G NX (kg_call G d NX) (kg_ret 1 NX K) kg_cd54 kg_sp54 (kg_P G d 54 4 N0 NX K) f pc ls st w M) : kg_P G d 54 4 N0 NX K pc ls st w M := kg_vgo hL hd kg_ok54 rfl rfl rfl rfl (fun e => by cases e) h
theorem kg_m54 {G : kg_G} {d NX : Nat} {K : kg_Qt} {args : List Value} {w : kg_W} {M : kg_M} (hal : args.length ≤ 4) (hw : w.1 ≤ NX) (h : kg_P G d 54 4 w.1 NX K 0 (kg_pad 4 args) [] w M) : kg_call G (d + 1) NX 54 args w M K := kg_P_call (by omega) rfl hal hw h
def kg_sp55 : List Nat := [2]
set_option maxRecDepth 100000 in
theorem kg_ls55 : kg_lks kg_cd55 kg_sp55 0 = some (1, 0, 0, 0, 0, []) ∧ kg_lks kg_cd55 kg_sp55 1 = some (2, 4, 3, 0, 0, []) ∧ kg_lks kg_cd55 kg_sp55 2 = none ∧ kg_lks kg_cd55 kg_sp55 3 = some (4, 2, 1, 0, 0, []) ∧ kg_lks kg_cd55 kg_sp55 4 = some (7, 17, 3, 30, 0, []) ∧ kg_lks kg_cd55 kg_sp55 7 = some (8, 3, 0, 0, 0, []) ∧ kg_lks kg_cd55 kg_sp55 8 = some (9, 2, 3, 0, 0, []) ∧ kg_lks kg_cd55 kg_sp55 9 = some (10, 2, 2, 0, 0, []) ∧ kg_lks kg_cd55 kg_sp55 10 = some (13, 39, 27, 3, 87, []) ∧ kg_lks kg_cd55 kg_sp55 13 = some (14, 3, 0, 0, 0, []) ∧ kg_lks kg_cd55 kg_sp55 14 = some (15, 2, 1, 0, 0, []) ∧ kg_lks kg_cd55 kg_sp55 15 = some (16, 2, 2, 0, 0, []) ∧ kg_lks kg_cd55 kg_sp55 16 = some (19, 39, 27, 3, 87, []) ∧ kg_lks kg_cd55 kg_sp55 19 = some (22, 17, 1, 24, 0, []) ∧ kg_lks kg_cd55 kg_sp55 22 = some (23, 0, 1, 0, 0, []) ∧ kg_lks kg_cd55 kg_sp55 23 = some (24, 48, 0, 0, 0, []) ∧ kg_lks kg_cd55 kg_sp55 24 = some (27, 6, 3, 1, 0, []) ∧ kg_lks kg_cd55 kg_sp55 27 = some (30, 18, 0, 2, 0, []) ∧ kg_lks kg_cd55 kg_sp55 30 = some (31, 0, 0, 0, 0, []) ∧ kg_lks kg_cd55 kg_sp55 31 = some (32, 48, 0, 0, 0, []) := by refine ⟨?_, ?_, ?_, ?_, ?_, ?_, ?_, ?_, ?_, ?_, ?_, ?_, ?_, ?_, ?_, ?_, ?_, ?_, ?_, ?_⟩ <;> rfl
theorem kg_v55 {G : kg_G} (hL : G.2.2.2.2.2.1 < 2 ^ 31) {d N0 NX : Nat} (hd : 1 ≤ d) {K : kg_Qt} (f : Nat) {pc : Nat} {ls : List (Option Value)} {st : List Value} {w : kg_W} {M : kg_M} (h : kg_go G NX (kg_call G d NX) (kg_ret 2 NX K) kg_cd55 kg_sp55 (kg_P G d 55 4 N0 NX K) f pc ls st w M) : kg_P G d 55 4 N0 NX K pc ls st w M := kg_vgo hL hd kg_ok55 rfl rfl rfl rfl (fun e => by cases e) h
theorem kg_m55 {G : kg_G} {d NX : Nat} {K : kg_Qt} {args : List Value} {w : kg_W} {M : kg_M} (hal : args.length ≤ 4) (hw : w.1 ≤ NX) (h : kg_P G d 55 4 w.1 NX K 0 (kg_pad 4 args) [] w M) : kg_call G (d + 1) NX 55 args w M K := kg_P_call (by omega) rfl hal hw h
def kg_sp56 : List Nat := [25]
set_option maxRecDepth 100000 in
theorem kg_ls56 : kg_lks kg_cd56 kg_sp56 0 = some (1, 3, 0, 0, 0, []) ∧ kg_lks kg_cd56 kg_sp56 1 = some (4, 44, 0, 0, 3, []) ∧ kg_lks kg_cd56 kg_sp56 4 = some (5, 3, 0, 0, 0, []) ∧ kg_lks kg_cd56 kg_sp56 5 = some (8, 36, 4, 0, 9, []) ∧ kg_lks kg_cd56 kg_sp56 8 = some (9, 13, 0, 0, 0, []) ∧ kg_lks kg_cd56 kg_sp56 9 = some (12, 42, 21, 0, 11, []) ∧ kg_lks kg_cd56 kg_sp56 12 = some (15, 25, 5, 0, 12, []) ∧ kg_lks kg_cd56 kg_sp56 15 = some (16, 3, 0, 0, 0, []) ∧ kg_lks kg_cd56 kg_sp56 16 = some (17, 0, 4, 0, 0, []) ∧ kg_lks kg_cd56 kg_sp56 17 = some (20, 38, 0, 0, 9, []) ∧ kg_lks kg_cd56 kg_sp56 20 = some (23, 25, 5, 1, 16, []) ∧ kg_lks kg_cd56 kg_sp56 23 = some (24, 0, 0, 0, 0, []) ∧ kg_lks kg_cd56 kg_sp56 24 = some (25, 4, 1, 0, 0, []) ∧ kg_lks kg_cd56 kg_sp56 25 = none ∧ kg_lks kg_cd56 kg_sp56 26 = some (27, 0, 4, 0, 0, []) ∧ kg_lks kg_cd56 kg_sp56 27 = some (30, 17, 3, 49, 0, []) ∧ kg_lks kg_cd56 kg_sp56 30 = some (31, 3, 0, 0, 0, []) ∧ kg_lks kg_cd56 kg_sp56 31 = some (34, 22, 5, 1, 16, []) ∧ kg_lks kg_cd56 kg_sp56 34 = some (35, 2, 1, 0, 0, []) ∧ kg_lks kg_cd56 kg_sp56 35 = some (38, 36, 4, 0, 9, []) ∧ kg_lks kg_cd56 kg_sp56 38 = some (39, 13, 0, 0, 0, []) ∧ kg_lks kg_cd56 kg_sp56 39 = some (42, 42, 21, 0, 11, []) ∧ kg_lks kg_cd56 kg_sp56 42 = some (43, 34, 0, 0, 0, []) ∧ kg_lks kg_cd56 kg_sp56 43 = some (46, 6, 1, 1, 0, []) ∧ kg_lks kg_cd56 kg_sp56 46 = some (49, 18, 0, 25, 0, []) ∧ kg_lks kg_cd56 kg_sp56 49 = some (50, 3, 0, 0, 0, []) ∧ kg_lks kg_cd56 kg_sp56 50 = some (51, 0, 0, 0, 0, []) ∧ kg_lks kg_cd56 kg_sp56 51 = some (54, 23, 5, 2, 20, []) ∧ kg_lks kg_cd56 kg_sp56 54 = some (55, 3, 0, 0, 0, []) ∧ kg_lks kg_cd56 kg_sp56 55 = some (58, 36, 4, 0, 9, []) ∧ kg_lks kg_cd56 kg_sp56 58 = some (59, 13, 0, 0, 0, []) ∧ kg_lks kg_cd56 kg_sp56 59 = some (62, 42, 21, 0, 11, []) ∧ kg_lks kg_cd56 kg_sp56 62 = some (65, 25, 5, 3, 24, []) ∧ kg_lks kg_cd56 kg_sp56 65 = some (66, 3, 0, 0, 0, []) ∧ kg_lks kg_cd56 kg_sp56 66 = some (67, 0, 0, 0, 0, []) ∧ kg_lks kg_cd56 kg_sp56 67 = some (70, 24, 5, 4, 27, []) ∧ kg_lks kg_cd56 kg_sp56 70 = some (71, 3, 0, 0, 0, []) ∧ kg_lks kg_cd56 kg_sp56 71 = some (74, 36, 3, 0, 31, []) ∧ kg_lks kg_cd56 kg_sp56 74 = some (75, 13, 0, 0, 0, []) ∧ kg_lks kg_cd56 kg_sp56 75 = some (78, 43, 14, 0, 33, []) ∧ kg_lks kg_cd56 kg_sp56 78 = some (81, 25, 5, 5, 34, []) ∧ kg_lks kg_cd56 kg_sp56 81 = some (82, 49, 0, 0, 0, []) := by refine ⟨?_, ?_, ?_, ?_, ?_, ?_, ?_, ?_, ?_, ?_, ?_, ?_, ?_, ?_, ?_, ?_, ?_, ?_, ?_, ?_, ?_, ?_, ?_, ?_, ?_, ?_, ?_, ?_, ?_, ?_, ?_, ?_, ?_, ?_, ?_, ?_, ?_, ?_, ?_, ?_, ?_, ?_⟩ <;> rfl
theorem kg_v56 {G : kg_G} (hL : G.2.2.2.2.2.1 < 2 ^ 31) {d N0 NX : Nat} (hd : 1 ≤ d) {K : kg_Qt} (f : Nat) {pc : Nat} {ls : List (Option Value)} {st : List Value} {w : kg_W} {M : kg_M} (h : kg_go G NX (kg_call G d NX) (kg_ret 0 NX K) kg_cd56 kg_sp56 (kg_P G d 56 2 N0 NX K) f pc ls st w M) : kg_P G d 56 2 N0 NX K pc ls st w M := kg_vgo hL hd kg_ok56 rfl rfl rfl rfl (fun _ => rfl) h
theorem kg_m56 {G : kg_G} {d NX : Nat} {K : kg_Qt} {args : List Value} {w : kg_W} {M : kg_M} (hal : args.length ≤ 2) (hw : w.1 ≤ NX) (h : kg_P G d 56 2 w.1 NX K 0 (kg_pad 2 args) [] w M) : kg_call G (d + 1) NX 56 args w M K := kg_P_call (by omega) rfl hal hw h
def kg_sp57 : List Nat := []
set_option maxRecDepth 100000 in
theorem kg_ls57 : kg_lks kg_cd57 kg_sp57 0 = some (1, 2, 1, 0, 0, []) ∧ kg_lks kg_cd57 kg_sp57 1 = some (4, 40, 58, 1, 38, []) ∧ kg_lks kg_cd57 kg_sp57 4 = some (7, 16, 1, 9, 0, []) ∧ kg_lks kg_cd57 kg_sp57 7 = some (8, 1, 1, 0, 0, []) ∧ kg_lks kg_cd57 kg_sp57 8 = some (9, 48, 0, 0, 0, []) ∧ kg_lks kg_cd57 kg_sp57 9 = some (10, 2, 2, 0, 0, []) ∧ kg_lks kg_cd57 kg_sp57 10 = some (13, 26, 1001, 0, 42, []) ∧ kg_lks kg_cd57 kg_sp57 13 = some (14, 2, 1, 0, 0, []) ∧ kg_lks kg_cd57 kg_sp57 14 = some (15, 27, 0, 0, 0, []) ∧ kg_lks kg_cd57 kg_sp57 15 = some (18, 17, 2, 27, 0, []) ∧ kg_lks kg_cd57 kg_sp57 18 = some (19, 2, 2, 0, 0, []) ∧ kg_lks kg_cd57 kg_sp57 19 = some (22, 26, 1002, 0, 46, []) ∧ kg_lks kg_cd57 kg_sp57 22 = some (23, 2, 1, 0, 0, []) ∧ kg_lks kg_cd57 kg_sp57 23 = some (24, 27, 0, 0, 0, []) ∧ kg_lks kg_cd57 kg_sp57 24 = some (27, 17, 5, 30, 0, []) ∧ kg_lks kg_cd57 kg_sp57 27 = some (29, 1, 2, 0, 0, []) ∧ kg_lks kg_cd57 kg_sp57 29 = some (30, 48, 0, 0, 0, []) ∧ kg_lks kg_cd57 kg_sp57 30 = some (31, 3, 0, 0, 0, []) ∧ kg_lks kg_cd57 kg_sp57 31 = some (34, 22, 5, 0, 12, []) ∧ kg_lks kg_cd57 kg_sp57 34 = some (37, 22, 4, 2, 49, []) ∧ kg_lks kg_cd57 kg_sp57 37 = some (38, 2, 1, 0, 0, []) ∧ kg_lks kg_cd57 kg_sp57 38 = some (39, 27, 0, 0, 0, []) ∧ kg_lks kg_cd57 kg_sp57 39 = some (40, 4, 3, 0, 0, []) ∧ kg_lks kg_cd57 kg_sp57 40 = some (41, 2, 3, 0, 0, []) ∧ kg_lks kg_cd57 kg_sp57 41 = some (42, 2, 2, 0, 0, []) ∧ kg_lks kg_cd57 kg_sp57 42 = some (45, 17, 1, 48, 0, []) ∧ kg_lks kg_cd57 kg_sp57 45 = some (47, 1, 5, 0, 0, []) ∧ kg_lks kg_cd57 kg_sp57 47 = some (48, 48, 0, 0, 0, []) ∧ kg_lks kg_cd57 kg_sp57 48 = some (49, 3, 0, 0, 0, []) ∧ kg_lks kg_cd57 kg_sp57 49 = some (52, 39, 59, 1, 52, []) ∧ kg_lks kg_cd57 kg_sp57 52 = some (53, 3, 0, 0, 0, []) ∧ kg_lks kg_cd57 kg_sp57 53 = some (56, 22, 5, 0, 12, []) ∧ kg_lks kg_cd57 kg_sp57 56 = some (59, 22, 4, 2, 49, []) ∧ kg_lks kg_cd57 kg_sp57 59 = some (60, 2, 1, 0, 0, []) ∧ kg_lks kg_cd57 kg_sp57 60 = some (61, 2, 2, 0, 0, []) ∧ kg_lks kg_cd57 kg_sp57 61 = some (62, 31, 0, 0, 0, []) ∧ kg_lks kg_cd57 kg_sp57 62 = some (63, 2, 3, 0, 0, []) ∧ kg_lks kg_cd57 kg_sp57 63 = some (64, 48, 0, 0, 0, []) := by refine ⟨?_, ?_, ?_, ?_, ?_, ?_, ?_, ?_, ?_, ?_, ?_, ?_, ?_, ?_, ?_, ?_, ?_, ?_, ?_, ?_, ?_, ?_, ?_, ?_, ?_, ?_, ?_, ?_, ?_, ?_, ?_, ?_, ?_, ?_, ?_, ?_, ?_, ?_⟩ <;> rfl
theorem kg_v57 {G : kg_G} (hL : G.2.2.2.2.2.1 < 2 ^ 31) {d N0 NX : Nat} (hd : 1 ≤ d) {K : kg_Qt} (f : Nat) {pc : Nat} {ls : List (Option Value)} {st : List Value} {w : kg_W} {M : kg_M} (h : kg_go G NX (kg_call G d NX) (kg_ret 1 NX K) kg_cd57 kg_sp57 (kg_P G d 57 4 N0 NX K) f pc ls st w M) : kg_P G d 57 4 N0 NX K pc ls st w M := kg_vgo hL hd kg_ok57 rfl rfl rfl rfl (fun e => by cases e) h
theorem kg_m57 {G : kg_G} {d NX : Nat} {K : kg_Qt} {args : List Value} {w : kg_W} {M : kg_M} (hal : args.length ≤ 4) (hw : w.1 ≤ NX) (h : kg_P G d 57 4 w.1 NX K 0 (kg_pad 4 args) [] w M) : kg_call G (d + 1) NX 57 args w M K := kg_P_call (by omega) rfl hal hw h
def kg_sp58 : List Nat := []
set_option maxRecDepth 100000 in
theorem kg_ls58 : kg_lks kg_cd58 kg_sp58 0 = some (1, 2, 0, 0, 0, []) ∧ kg_lks kg_cd58 kg_sp58 1 = some (4, 16, 2, 13, 0, []) ∧ kg_lks kg_cd58 kg_sp58 4 = some (5, 2, 0, 0, 0, []) ∧ kg_lks kg_cd58 kg_sp58 5 = some (6, 0, 5, 0, 0, []) ∧ kg_lks kg_cd58 kg_sp58 6 = some (9, 17, 3, 13, 0, []) ∧ kg_lks kg_cd58 kg_sp58 9 = some (10, 0, 1, 0, 0, []) ∧ kg_lks kg_cd58 kg_sp58 10 = some (13, 18, 0, 14, 0, []) ∧ kg_lks kg_cd58 kg_sp58 13 = some (14, 0, 0, 0, 0, []) ∧ kg_lks kg_cd58 kg_sp58 14 = some (15, 48, 0, 0, 0, []) := by refine ⟨?_, ?_, ?_, ?_, ?_, ?_, ?_, ?_, ?_⟩ <;> rfl
theorem kg_v58 {G : kg_G} (hL : G.2.2.2.2.2.1 < 2 ^ 31) {d N0 NX : Nat} (hd : 1 ≤ d) {K : kg_Qt} (f : Nat) {pc : Nat} {ls : List (Option Value)} {st : List Value} {w : kg_W} {M : kg_M} (h : kg_go G NX (kg_call G d NX) (kg_ret 2 NX K) kg_cd58 kg_sp58 (kg_P G d 58 1 N0 NX K) f pc ls st w M) : kg_P G d 58 1 N0 NX K pc ls st w M := kg_vgo hL hd kg_ok58 rfl rfl rfl rfl (fun e => by cases e) h
theorem kg_m58 {G : kg_G} {d NX : Nat} {K : kg_Qt} {args : List Value} {w : kg_W} {M : kg_M} (hal : args.length ≤ 1) (hw : w.1 ≤ NX) (h : kg_P G d 58 1 w.1 NX K 0 (kg_pad 1 args) [] w M) : kg_call G (d + 1) NX 58 args w M K := kg_P_call (by omega) rfl hal hw h
def kg_sp59 : List Nat := [17]
set_option maxRecDepth 100000 in
theorem kg_ls59 : kg_lks kg_cd59 kg_sp59 0 = some (1, 3, 0, 0, 0, []) ∧ kg_lks kg_cd59 kg_sp59 1 = some (4, 21, 5, 2, 20, []) ∧ kg_lks kg_cd59 kg_sp59 4 = some (5, 0, 4, 0, 0, []) ∧ kg_lks kg_cd59 kg_sp59 5 = some (8, 17, 2, 54, 0, []) ∧ kg_lks kg_cd59 kg_sp59 8 = some (9, 3, 0, 0, 0, []) ∧ kg_lks kg_cd59 kg_sp59 9 = some (12, 22, 5, 1, 16, []) ∧ kg_lks kg_cd59 kg_sp59 12 = some (13, 0, 0, 0, 0, []) ∧ kg_lks kg_cd59 kg_sp59 13 = some (14, 30, 0, 0, 0, []) ∧ kg_lks kg_cd59 kg_sp59 14 = some (15, 5, 1, 0, 0, []) ∧ kg_lks kg_cd59 kg_sp59 15 = some (16, 0, 1, 0, 0, []) ∧ kg_lks kg_cd59 kg_sp59 16 = some (17, 4, 2, 0, 0, []) ∧ kg_lks kg_cd59 kg_sp59 17 = none ∧ kg_lks kg_cd59 kg_sp59 18 = some (19, 0, 4, 0, 0, []) ∧ kg_lks kg_cd59 kg_sp59 19 = some (22, 17, 3, 42, 0, []) ∧ kg_lks kg_cd59 kg_sp59 22 = some (23, 3, 0, 0, 0, []) ∧ kg_lks kg_cd59 kg_sp59 23 = some (26, 22, 5, 1, 16, []) ∧ kg_lks kg_cd59 kg_sp59 26 = some (27, 2, 2, 0, 0, []) ∧ kg_lks kg_cd59 kg_sp59 27 = some (28, 0, 1, 0, 0, []) ∧ kg_lks kg_cd59 kg_sp59 28 = some (29, 8, 0, 0, 0, []) ∧ kg_lks kg_cd59 kg_sp59 29 = some (30, 3, 0, 0, 0, []) ∧ kg_lks kg_cd59 kg_sp59 30 = some (33, 22, 5, 1, 16, []) ∧ kg_lks kg_cd59 kg_sp59 33 = some (34, 2, 2, 0, 0, []) ∧ kg_lks kg_cd59 kg_sp59 34 = some (35, 30, 0, 0, 0, []) ∧ kg_lks kg_cd59 kg_sp59 35 = some (36, 34, 0, 0, 0, []) ∧ kg_lks kg_cd59 kg_sp59 36 = some (39, 6, 2, 1, 0, []) ∧ kg_lks kg_cd59 kg_sp59 39 = some (42, 18, 0, 17, 0, []) ∧ kg_lks kg_cd59 kg_sp59 42 = some (43, 3, 0, 0, 0, []) ∧ kg_lks kg_cd59 kg_sp59 43 = some (46, 22, 5, 1, 16, []) ∧ kg_lks kg_cd59 kg_sp59 46 = some (47, 0, 3, 0, 0, []) ∧ kg_lks kg_cd59 kg_sp59 47 = some (48, 3, 1, 0, 0, []) ∧ kg_lks kg_cd59 kg_sp59 48 = some (49, 34, 0, 0, 0, []) ∧ kg_lks kg_cd59 kg_sp59 49 = some (50, 3, 0, 0, 0, []) ∧ kg_lks kg_cd59 kg_sp59 50 = some (51, 0, 3, 0, 0, []) ∧ kg_lks kg_cd59 kg_sp59 51 = some (54, 23, 5, 2, 20, []) ∧ kg_lks kg_cd59 kg_sp59 54 = some (55, 3, 0, 0, 0, []) ∧ kg_lks kg_cd59 kg_sp59 55 = some (58, 22, 5, 1, 16, []) ∧ kg_lks kg_cd59 kg_sp59 58 = some (59, 3, 0, 0, 0, []) ∧ kg_lks kg_cd59 kg_sp59 59 = some (62, 21, 5, 2, 20, []) ∧ kg_lks kg_cd59 kg_sp59 62 = some (63, 30, 0, 0, 0, []) ∧ kg_lks kg_cd59 kg_sp59 63 = some (64, 3, 0, 0, 0, []) ∧ kg_lks kg_cd59 kg_sp59 64 = some (67, 22, 5, 0, 12, []) ∧ kg_lks kg_cd59 kg_sp59 67 = some (70, 39, 22, 2, 144, []) ∧ kg_lks kg_cd59 kg_sp59 70 = some (71, 3, 0, 0, 0, []) ∧ kg_lks kg_cd59 kg_sp59 71 = some (72, 13, 0, 0, 0, []) ∧ kg_lks kg_cd59 kg_sp59 72 = some (75, 21, 5, 2, 20, []) ∧ kg_lks kg_cd59 kg_sp59 75 = some (76, 0, 1, 0, 0, []) ∧ kg_lks kg_cd59 kg_sp59 76 = some (77, 7, 0, 0, 0, []) ∧ kg_lks kg_cd59 kg_sp59 77 = some (80, 23, 5, 2, 20, []) ∧ kg_lks kg_cd59 kg_sp59 80 = some (81, 49, 0, 0, 0, []) := by refine ⟨?_, ?_, ?_, ?_, ?_, ?_, ?_, ?_, ?_, ?_, ?_, ?_, ?_, ?_, ?_, ?_, ?_, ?_, ?_, ?_, ?_, ?_, ?_, ?_, ?_, ?_, ?_, ?_, ?_, ?_, ?_, ?_, ?_, ?_, ?_, ?_, ?_, ?_, ?_, ?_, ?_, ?_, ?_, ?_, ?_, ?_, ?_, ?_, ?_⟩ <;> rfl
theorem kg_v59 {G : kg_G} (hL : G.2.2.2.2.2.1 < 2 ^ 31) {d N0 NX : Nat} (hd : 1 ≤ d) {K : kg_Qt} (f : Nat) {pc : Nat} {ls : List (Option Value)} {st : List Value} {w : kg_W} {M : kg_M} (h : kg_go G NX (kg_call G d NX) (kg_ret 0 NX K) kg_cd59 kg_sp59 (kg_P G d 59 3 N0 NX K) f pc ls st w M) : kg_P G d 59 3 N0 NX K pc ls st w M := kg_vgo hL hd kg_ok59 rfl rfl rfl rfl (fun e => by cases e) h
theorem kg_m59 {G : kg_G} {d NX : Nat} {K : kg_Qt} {args : List Value} {w : kg_W} {M : kg_M} (hal : args.length ≤ 3) (hw : w.1 ≤ NX) (h : kg_P G d 59 3 w.1 NX K 0 (kg_pad 3 args) [] w M) : kg_call G (d + 1) NX 59 args w M K := kg_P_call (by omega) rfl hal hw h
def kg_sp60 : List Nat := []
set_option maxRecDepth 100000 in
theorem kg_ls60 : kg_lks kg_cd60 kg_sp60 0 = some (1, 2, 1, 0, 0, []) ∧ kg_lks kg_cd60 kg_sp60 1 = some (4, 40, 61, 1, 55, []) ∧ kg_lks kg_cd60 kg_sp60 4 = some (7, 16, 1, 9, 0, []) ∧ kg_lks kg_cd60 kg_sp60 7 = some (8, 1, 1, 0, 0, []) ∧ kg_lks kg_cd60 kg_sp60 8 = some (9, 48, 0, 0, 0, []) ∧ kg_lks kg_cd60 kg_sp60 9 = some (10, 3, 0, 0, 0, []) ∧ kg_lks kg_cd60 kg_sp60 10 = some (13, 22, 5, 0, 12, []) ∧ kg_lks kg_cd60 kg_sp60 13 = some (16, 22, 4, 3, 58, []) ∧ kg_lks kg_cd60 kg_sp60 16 = some (17, 2, 1, 0, 0, []) ∧ kg_lks kg_cd60 kg_sp60 17 = some (18, 28, 0, 0, 0, []) ∧ kg_lks kg_cd60 kg_sp60 18 = some (19, 2, 2, 0, 0, []) ∧ kg_lks kg_cd60 kg_sp60 19 = some (22, 17, 1, 25, 0, []) ∧ kg_lks kg_cd60 kg_sp60 22 = some (24, 1, 5, 0, 0, []) ∧ kg_lks kg_cd60 kg_sp60 24 = some (25, 48, 0, 0, 0, []) ∧ kg_lks kg_cd60 kg_sp60 25 = some (26, 3, 0, 0, 0, []) ∧ kg_lks kg_cd60 kg_sp60 26 = some (29, 39, 59, 1, 52, []) ∧ kg_lks kg_cd60 kg_sp60 29 = some (30, 3, 0, 0, 0, []) ∧ kg_lks kg_cd60 kg_sp60 30 = some (33, 22, 5, 0, 12, []) ∧ kg_lks kg_cd60 kg_sp60 33 = some (36, 22, 4, 3, 58, []) ∧ kg_lks kg_cd60 kg_sp60 36 = some (37, 2, 1, 0, 0, []) ∧ kg_lks kg_cd60 kg_sp60 37 = some (38, 2, 2, 0, 0, []) ∧ kg_lks kg_cd60 kg_sp60 38 = some (39, 32, 0, 0, 0, []) ∧ kg_lks kg_cd60 kg_sp60 39 = some (40, 3, 0, 0, 0, []) ∧ kg_lks kg_cd60 kg_sp60 40 = some (43, 22, 5, 0, 12, []) ∧ kg_lks kg_cd60 kg_sp60 43 = some (46, 39, 23, 1, 62, []) ∧ kg_lks kg_cd60 kg_sp60 46 = some (47, 48, 0, 0, 0, []) := by refine ⟨?_, ?_, ?_, ?_, ?_, ?_, ?_, ?_, ?_, ?_, ?_, ?_, ?_, ?_, ?_, ?_, ?_, ?_, ?_, ?_, ?_, ?_, ?_, ?_, ?_, ?_⟩ <;> rfl
theorem kg_v60 {G : kg_G} (hL : G.2.2.2.2.2.1 < 2 ^ 31) {d N0 NX : Nat} (hd : 1 ≤ d) {K : kg_Qt} (f : Nat) {pc : Nat} {ls : List (Option Value)} {st : List Value} {w : kg_W} {M : kg_M} (h : kg_go G NX (kg_call G d NX) (kg_ret 1 NX K) kg_cd60 kg_sp60 (kg_P G d 60 3 N0 NX K) f pc ls st w M) : kg_P G d 60 3 N0 NX K pc ls st w M := kg_vgo hL hd kg_ok60 rfl rfl rfl rfl (fun e => by cases e) h
theorem kg_m60 {G : kg_G} {d NX : Nat} {K : kg_Qt} {args : List Value} {w : kg_W} {M : kg_M} (hal : args.length ≤ 3) (hw : w.1 ≤ NX) (h : kg_P G d 60 3 w.1 NX K 0 (kg_pad 3 args) [] w M) : kg_call G (d + 1) NX 60 args w M K := kg_P_call (by omega) rfl hal hw h
def kg_sp61 : List Nat := []
set_option maxRecDepth 100000 in
theorem kg_ls61 : kg_lks kg_cd61 kg_sp61 0 = some (1, 2, 0, 0, 0, []) ∧ kg_lks kg_cd61 kg_sp61 1 = some (4, 16, 2, 13, 0, []) ∧ kg_lks kg_cd61 kg_sp61 4 = some (5, 2, 0, 0, 0, []) ∧ kg_lks kg_cd61 kg_sp61 5 = some (6, 0, 4, 0, 0, []) ∧ kg_lks kg_cd61 kg_sp61 6 = some (9, 17, 3, 13, 0, []) ∧ kg_lks kg_cd61 kg_sp61 9 = some (10, 0, 1, 0, 0, []) ∧ kg_lks kg_cd61 kg_sp61 10 = some (13, 18, 0, 14, 0, []) ∧ kg_lks kg_cd61 kg_sp61 13 = some (14, 0, 0, 0, 0, []) ∧ kg_lks kg_cd61 kg_sp61 14 = some (15, 48, 0, 0, 0, []) := by refine ⟨?_, ?_, ?_, ?_, ?_, ?_, ?_, ?_, ?_⟩ <;> rfl
theorem kg_v61 {G : kg_G} (hL : G.2.2.2.2.2.1 < 2 ^ 31) {d N0 NX : Nat} (hd : 1 ≤ d) {K : kg_Qt} (f : Nat) {pc : Nat} {ls : List (Option Value)} {st : List Value} {w : kg_W} {M : kg_M} (h : kg_go G NX (kg_call G d NX) (kg_ret 2 NX K) kg_cd61 kg_sp61 (kg_P G d 61 1 N0 NX K) f pc ls st w M) : kg_P G d 61 1 N0 NX K pc ls st w M := kg_vgo hL hd kg_ok61 rfl rfl rfl rfl (fun e => by cases e) h
theorem kg_m61 {G : kg_G} {d NX : Nat} {K : kg_Qt} {args : List Value} {w : kg_W} {M : kg_M} (hal : args.length ≤ 1) (hw : w.1 ≤ NX) (h : kg_P G d 61 1 w.1 NX K 0 (kg_pad 1 args) [] w M) : kg_call G (d + 1) NX 61 args w M K := kg_P_call (by omega) rfl hal hw h
def kg_sp62 : List Nat := []
set_option maxRecDepth 100000 in
theorem kg_ls62 : kg_lks kg_cd62 kg_sp62 0 = some (1, 2, 1, 0, 0, []) ∧ kg_lks kg_cd62 kg_sp62 1 = some (4, 40, 61, 1, 55, []) ∧ kg_lks kg_cd62 kg_sp62 4 = some (7, 16, 0, 14, 0, []) ∧ kg_lks kg_cd62 kg_sp62 7 = some (8, 2, 2, 0, 0, []) ∧ kg_lks kg_cd62 kg_sp62 8 = some (11, 40, 63, 1, 66, []) ∧ kg_lks kg_cd62 kg_sp62 11 = some (14, 16, 1, 16, 0, []) ∧ kg_lks kg_cd62 kg_sp62 14 = some (15, 1, 1, 0, 0, []) ∧ kg_lks kg_cd62 kg_sp62 15 = some (16, 48, 0, 0, 0, []) ∧ kg_lks kg_cd62 kg_sp62 16 = some (17, 2, 3, 0, 0, []) ∧ kg_lks kg_cd62 kg_sp62 17 = some (20, 16, 2, 26, 0, []) ∧ kg_lks kg_cd62 kg_sp62 20 = some (21, 2, 3, 0, 0, []) ∧ kg_lks kg_cd62 kg_sp62 21 = some (23, 0, 99, 0, 0, []) ∧ kg_lks kg_cd62 kg_sp62 23 = some (26, 17, 5, 29, 0, []) ∧ kg_lks kg_cd62 kg_sp62 26 = some (28, 1, 2, 0, 0, []) ∧ kg_lks kg_cd62 kg_sp62 28 = some (29, 48, 0, 0, 0, []) ∧ kg_lks kg_cd62 kg_sp62 29 = some (30, 3, 0, 0, 0, []) ∧ kg_lks kg_cd62 kg_sp62 30 = some (33, 22, 5, 0, 12, []) ∧ kg_lks kg_cd62 kg_sp62 33 = some (36, 22, 4, 3, 58, []) ∧ kg_lks kg_cd62 kg_sp62 36 = some (37, 2, 1, 0, 0, []) ∧ kg_lks kg_cd62 kg_sp62 37 = some (38, 28, 0, 0, 0, []) ∧ kg_lks kg_cd62 kg_sp62 38 = some (41, 16, 1, 44, 0, []) ∧ kg_lks kg_cd62 kg_sp62 41 = some (43, 1, 4, 0, 0, []) ∧ kg_lks kg_cd62 kg_sp62 43 = some (44, 48, 0, 0, 0, []) ∧ kg_lks kg_cd62 kg_sp62 44 = some (45, 3, 0, 0, 0, []) ∧ kg_lks kg_cd62 kg_sp62 45 = some (48, 39, 59, 1, 52, []) ∧ kg_lks kg_cd62 kg_sp62 48 = some (49, 3, 0, 0, 0, []) ∧ kg_lks kg_cd62 kg_sp62 49 = some (52, 22, 5, 0, 12, []) ∧ kg_lks kg_cd62 kg_sp62 52 = some (53, 2, 1, 0, 0, []) ∧ kg_lks kg_cd62 kg_sp62 53 = some (54, 2, 2, 0, 0, []) ∧ kg_lks kg_cd62 kg_sp62 54 = some (55, 2, 3, 0, 0, []) ∧ kg_lks kg_cd62 kg_sp62 55 = some (58, 39, 24, 4, 69, []) ∧ kg_lks kg_cd62 kg_sp62 58 = some (59, 48, 0, 0, 0, []) := by refine ⟨?_, ?_, ?_, ?_, ?_, ?_, ?_, ?_, ?_, ?_, ?_, ?_, ?_, ?_, ?_, ?_, ?_, ?_, ?_, ?_, ?_, ?_, ?_, ?_, ?_, ?_, ?_, ?_, ?_, ?_, ?_, ?_⟩ <;> rfl
theorem kg_v62 {G : kg_G} (hL : G.2.2.2.2.2.1 < 2 ^ 31) {d N0 NX : Nat} (hd : 1 ≤ d) {K : kg_Qt} (f : Nat) {pc : Nat} {ls : List (Option Value)} {st : List Value} {w : kg_W} {M : kg_M} (h : kg_go G NX (kg_call G d NX) (kg_ret 1 NX K) kg_cd62 kg_sp62 (kg_P G d 62 4 N0 NX K) f pc ls st w M) : kg_P G d 62 4 N0 NX K pc ls st w M := kg_vgo hL hd kg_ok62 rfl rfl rfl rfl (fun e => by cases e) h
theorem kg_m62 {G : kg_G} {d NX : Nat} {K : kg_Qt} {args : List Value} {w : kg_W} {M : kg_M} (hal : args.length ≤ 4) (hw : w.1 ≤ NX) (h : kg_P G d 62 4 w.1 NX K 0 (kg_pad 4 args) [] w M) : kg_call G (d + 1) NX 62 args w M K := kg_P_call (by omega) rfl hal hw h
def kg_sp63 : List Nat := []
set_option maxRecDepth 100000 in
theorem kg_ls63 : kg_lks kg_cd63 kg_sp63 0 = some (1, 2, 0, 0, 0, []) ∧ kg_lks kg_cd63 kg_sp63 1 = some (4, 16, 2, 14, 0, []) ∧ kg_lks kg_cd63 kg_sp63 4 = some (5, 2, 0, 0, 0, []) ∧ kg_lks kg_cd63 kg_sp63 5 = some (7, 0, 8, 0, 0, []) ∧ kg_lks kg_cd63 kg_sp63 7 = some (10, 17, 3, 14, 0, []) ∧ kg_lks kg_cd63 kg_sp63 10 = some (11, 0, 1, 0, 0, []) ∧ kg_lks kg_cd63 kg_sp63 11 = some (14, 18, 0, 15, 0, []) ∧ kg_lks kg_cd63 kg_sp63 14 = some (15, 0, 0, 0, 0, []) ∧ kg_lks kg_cd63 kg_sp63 15 = some (16, 48, 0, 0, 0, []) := by refine ⟨?_, ?_, ?_, ?_, ?_, ?_, ?_, ?_, ?_⟩ <;> rfl
theorem kg_v63 {G : kg_G} (hL : G.2.2.2.2.2.1 < 2 ^ 31) {d N0 NX : Nat} (hd : 1 ≤ d) {K : kg_Qt} (f : Nat) {pc : Nat} {ls : List (Option Value)} {st : List Value} {w : kg_W} {M : kg_M} (h : kg_go G NX (kg_call G d NX) (kg_ret 2 NX K) kg_cd63 kg_sp63 (kg_P G d 63 1 N0 NX K) f pc ls st w M) : kg_P G d 63 1 N0 NX K pc ls st w M := kg_vgo hL hd kg_ok63 rfl rfl rfl rfl (fun e => by cases e) h
theorem kg_m63 {G : kg_G} {d NX : Nat} {K : kg_Qt} {args : List Value} {w : kg_W} {M : kg_M} (hal : args.length ≤ 1) (hw : w.1 ≤ NX) (h : kg_P G d 63 1 w.1 NX K 0 (kg_pad 1 args) [] w M) : kg_call G (d + 1) NX 63 args w M K := kg_P_call (by omega) rfl hal hw h
def kg_sp64 : List Nat := []
set_option maxRecDepth 100000 in
theorem kg_ls64 : kg_lks kg_cd64 kg_sp64 0 = some (1, 2, 0, 0, 0, []) ∧ kg_lks kg_cd64 kg_sp64 1 = some (3, 0, 8, 0, 0, []) ∧ kg_lks kg_cd64 kg_sp64 3 = some (4, 9, 0, 0, 0, []) ∧ kg_lks kg_cd64 kg_sp64 4 = some (5, 2, 1, 0, 0, []) ∧ kg_lks kg_cd64 kg_sp64 5 = some (6, 7, 0, 0, 0, []) ∧ kg_lks kg_cd64 kg_sp64 6 = some (7, 48, 0, 0, 0, []) := by refine ⟨?_, ?_, ?_, ?_, ?_, ?_⟩ <;> rfl
theorem kg_v64 {G : kg_G} (hL : G.2.2.2.2.2.1 < 2 ^ 31) {d N0 NX : Nat} (hd : 1 ≤ d) {K : kg_Qt} (f : Nat) {pc : Nat} {ls : List (Option Value)} {st : List Value} {w : kg_W} {M : kg_M} (h : kg_go G NX (kg_call G d NX) (kg_ret 1 NX K) kg_cd64 kg_sp64 (kg_P G d 64 2 N0 NX K) f pc ls st w M) : kg_P G d 64 2 N0 NX K pc ls st w M := kg_vgo hL hd kg_ok64 rfl rfl rfl rfl (fun e => by cases e) h
theorem kg_m64 {G : kg_G} {d NX : Nat} {K : kg_Qt} {args : List Value} {w : kg_W} {M : kg_M} (hal : args.length ≤ 2) (hw : w.1 ≤ NX) (h : kg_P G d 64 2 w.1 NX K 0 (kg_pad 2 args) [] w M) : kg_call G (d + 1) NX 64 args w M K := kg_P_call (by omega) rfl hal hw h
def kg_sp65 : List Nat := []
set_option maxRecDepth 100000 in
theorem kg_ls65 : kg_lks kg_cd65 kg_sp65 0 = some (1, 2, 1, 0, 0, []) ∧ kg_lks kg_cd65 kg_sp65 1 = some (4, 40, 61, 1, 55, []) ∧ kg_lks kg_cd65 kg_sp65 4 = some (7, 16, 0, 14, 0, []) ∧ kg_lks kg_cd65 kg_sp65 7 = some (8, 2, 2, 0, 0, []) ∧ kg_lks kg_cd65 kg_sp65 8 = some (11, 40, 63, 1, 66, []) ∧ kg_lks kg_cd65 kg_sp65 11 = some (14, 16, 1, 16, 0, []) ∧ kg_lks kg_cd65 kg_sp65 14 = some (15, 1, 1, 0, 0, []) ∧ kg_lks kg_cd65 kg_sp65 15 = some (16, 48, 0, 0, 0, []) ∧ kg_lks kg_cd65 kg_sp65 16 = some (17, 3, 0, 0, 0, []) ∧ kg_lks kg_cd65 kg_sp65 17 = some (20, 22, 5, 0, 12, []) ∧ kg_lks kg_cd65 kg_sp65 20 = some (23, 22, 4, 3, 58, []) ∧ kg_lks kg_cd65 kg_sp65 23 = some (24, 2, 1, 0, 0, []) ∧ kg_lks kg_cd65 kg_sp65 24 = some (25, 28, 0, 0, 0, []) ∧ kg_lks kg_cd65 kg_sp65 25 = some (28, 16, 1, 31, 0, []) ∧ kg_lks kg_cd65 kg_sp65 28 = some (30, 1, 4, 0, 0, []) ∧ kg_lks kg_cd65 kg_sp65 30 = some (31, 48, 0, 0, 0, []) ∧ kg_lks kg_cd65 kg_sp65 31 = some (32, 3, 0, 0, 0, []) ∧ kg_lks kg_cd65 kg_sp65 32 = some (35, 39, 59, 1, 52, []) ∧ kg_lks kg_cd65 kg_sp65 35 = some (36, 3, 0, 0, 0, []) ∧ kg_lks kg_cd65 kg_sp65 36 = some (39, 22, 5, 0, 12, []) ∧ kg_lks kg_cd65 kg_sp65 39 = some (40, 2, 1, 0, 0, []) ∧ kg_lks kg_cd65 kg_sp65 40 = some (41, 2, 2, 0, 0, []) ∧ kg_lks kg_cd65 kg_sp65 41 = some (42, 1, 1, 0, 0, []) ∧ kg_lks kg_cd65 kg_sp65 42 = some (45, 39, 24, 4, 69, []) ∧ kg_lks kg_cd65 kg_sp65 45 = some (46, 48, 0, 0, 0, []) := by refine ⟨?_, ?_, ?_, ?_, ?_, ?_, ?_, ?_, ?_, ?_, ?_, ?_, ?_, ?_, ?_, ?_, ?_, ?_, ?_, ?_, ?_, ?_, ?_, ?_, ?_⟩ <;> rfl
theorem kg_v65 {G : kg_G} (hL : G.2.2.2.2.2.1 < 2 ^ 31) {d N0 NX : Nat} (hd : 1 ≤ d) {K : kg_Qt} (f : Nat) {pc : Nat} {ls : List (Option Value)} {st : List Value} {w : kg_W} {M : kg_M} (h : kg_go G NX (kg_call G d NX) (kg_ret 1 NX K) kg_cd65 kg_sp65 (kg_P G d 65 3 N0 NX K) f pc ls st w M) : kg_P G d 65 3 N0 NX K pc ls st w M := kg_vgo hL hd kg_ok65 rfl rfl rfl rfl (fun e => by cases e) h
theorem kg_m65 {G : kg_G} {d NX : Nat} {K : kg_Qt} {args : List Value} {w : kg_W} {M : kg_M} (hal : args.length ≤ 3) (hw : w.1 ≤ NX) (h : kg_P G d 65 3 w.1 NX K 0 (kg_pad 3 args) [] w M) : kg_call G (d + 1) NX 65 args w M K := kg_P_call (by omega) rfl hal hw h
def kg_sp66 : List Nat := []
set_option maxRecDepth 100000 in
theorem kg_ls66 : kg_lks kg_cd66 kg_sp66 0 = some (1, 2, 1, 0, 0, []) ∧ kg_lks kg_cd66 kg_sp66 1 = some (4, 40, 61, 1, 55, []) ∧ kg_lks kg_cd66 kg_sp66 4 = some (7, 16, 0, 14, 0, []) ∧ kg_lks kg_cd66 kg_sp66 7 = some (8, 2, 2, 0, 0, []) ∧ kg_lks kg_cd66 kg_sp66 8 = some (11, 40, 63, 1, 66, []) ∧ kg_lks kg_cd66 kg_sp66 11 = some (14, 16, 1, 16, 0, []) ∧ kg_lks kg_cd66 kg_sp66 14 = some (15, 1, 1, 0, 0, []) ∧ kg_lks kg_cd66 kg_sp66 15 = some (16, 48, 0, 0, 0, []) ∧ kg_lks kg_cd66 kg_sp66 16 = some (17, 3, 0, 0, 0, []) ∧ kg_lks kg_cd66 kg_sp66 17 = some (20, 22, 5, 0, 12, []) ∧ kg_lks kg_cd66 kg_sp66 20 = some (23, 22, 4, 3, 58, []) ∧ kg_lks kg_cd66 kg_sp66 23 = some (24, 2, 1, 0, 0, []) ∧ kg_lks kg_cd66 kg_sp66 24 = some (25, 28, 0, 0, 0, []) ∧ kg_lks kg_cd66 kg_sp66 25 = some (28, 16, 1, 31, 0, []) ∧ kg_lks kg_cd66 kg_sp66 28 = some (30, 1, 4, 0, 0, []) ∧ kg_lks kg_cd66 kg_sp66 30 = some (31, 48, 0, 0, 0, []) ∧ kg_lks kg_cd66 kg_sp66 31 = some (32, 3, 0, 0, 0, []) ∧ kg_lks kg_cd66 kg_sp66 32 = some (35, 22, 5, 0, 12, []) ∧ kg_lks kg_cd66 kg_sp66 35 = some (36, 2, 1, 0, 0, []) ∧ kg_lks kg_cd66 kg_sp66 36 = some (37, 2, 2, 0, 0, []) ∧ kg_lks kg_cd66 kg_sp66 37 = some (40, 39, 26, 3, 73, []) ∧ kg_lks kg_cd66 kg_sp66 40 = some (41, 4, 3, 0, 0, []) ∧ kg_lks kg_cd66 kg_sp66 41 = some (42, 3, 0, 0, 0, []) ∧ kg_lks kg_cd66 kg_sp66 42 = some (45, 22, 5, 0, 12, []) ∧ kg_lks kg_cd66 kg_sp66 45 = some (48, 22, 4, 2, 49, []) ∧ kg_lks kg_cd66 kg_sp66 48 = some (49, 0, 4, 0, 0, []) ∧ kg_lks kg_cd66 kg_sp66 49 = some (50, 27, 0, 0, 0, []) ∧ kg_lks kg_cd66 kg_sp66 50 = some (51, 0, 1, 0, 0, []) ∧ kg_lks kg_cd66 kg_sp66 51 = some (54, 17, 1, 79, 0, []) ∧ kg_lks kg_cd66 kg_sp66 54 = some (55, 3, 0, 0, 0, []) ∧ kg_lks kg_cd66 kg_sp66 55 = some (58, 22, 5, 0, 12, []) ∧ kg_lks kg_cd66 kg_sp66 58 = some (59, 2, 3, 0, 0, []) ∧ kg_lks kg_cd66 kg_sp66 59 = some (60, 2, 2, 0, 0, []) ∧ kg_lks kg_cd66 kg_sp66 60 = some (63, 39, 28, 3, 77, []) ∧ kg_lks kg_cd66 kg_sp66 63 = some (66, 16, 0, 79, 0, []) ∧ kg_lks kg_cd66 kg_sp66 66 = some (67, 3, 0, 0, 0, []) ∧ kg_lks kg_cd66 kg_sp66 67 = some (70, 39, 59, 1, 52, []) ∧ kg_lks kg_cd66 kg_sp66 70 = some (71, 3, 0, 0, 0, []) ∧ kg_lks kg_cd66 kg_sp66 71 = some (74, 22, 5, 0, 12, []) ∧ kg_lks kg_cd66 kg_sp66 74 = some (75, 2, 3, 0, 0, []) ∧ kg_lks kg_cd66 kg_sp66 75 = some (76, 2, 2, 0, 0, []) ∧ kg_lks kg_cd66 kg_sp66 76 = some (79, 39, 29, 3, 81, []) ∧ kg_lks kg_cd66 kg_sp66 79 = some (80, 3, 0, 0, 0, []) ∧ kg_lks kg_cd66 kg_sp66 80 = some (83, 22, 5, 0, 12, []) ∧ kg_lks kg_cd66 kg_sp66 83 = some (86, 22, 4, 4, 85, []) ∧ kg_lks kg_cd66 kg_sp66 86 = some (87, 2, 3, 0, 0, []) ∧ kg_lks kg_cd66 kg_sp66 87 = some (88, 2, 2, 0, 0, []) ∧ kg_lks kg_cd66 kg_sp66 88 = some (91, 40, 64, 2, 89, []) ∧ kg_lks kg_cd66 kg_sp66 91 = some (94, 39, 9, 2, 92, []) ∧ kg_lks kg_cd66 kg_sp66 94 = some (95, 48, 0, 0, 0, []) := by refine ⟨?_, ?_, ?_, ?_, ?_, ?_, ?_, ?_, ?_, ?_, ?_, ?_, ?_, ?_, ?_, ?_, ?_, ?_, ?_, ?_, ?_, ?_, ?_, ?_, ?_, ?_, ?_, ?_, ?_, ?_, ?_, ?_, ?_, ?_, ?_, ?_, ?_, ?_, ?_, ?_, ?_, ?_, ?_, ?_, ?_, ?_, ?_, ?_, ?_, ?_⟩ <;> rfl
theorem kg_v66 {G : kg_G} (hL : G.2.2.2.2.2.1 < 2 ^ 31) {d N0 NX : Nat} (hd : 1 ≤ d) {K : kg_Qt} (f : Nat) {pc : Nat} {ls : List (Option Value)} {st : List Value} {w : kg_W} {M : kg_M} (h : kg_go G NX (kg_call G d NX) (kg_ret 1 NX K) kg_cd66 kg_sp66 (kg_P G d 66 4 N0 NX K) f pc ls st w M) : kg_P G d 66 4 N0 NX K pc ls st w M := kg_vgo hL hd kg_ok66 rfl rfl rfl rfl (fun e => by cases e) h
theorem kg_m66 {G : kg_G} {d NX : Nat} {K : kg_Qt} {args : List Value} {w : kg_W} {M : kg_M} (hal : args.length ≤ 4) (hw : w.1 ≤ NX) (h : kg_P G d 66 4 w.1 NX K 0 (kg_pad 4 args) [] w M) : kg_call G (d + 1) NX 66 args w M K := kg_P_call (by omega) rfl hal hw h
def kg_sp67 : List Nat := []
set_option maxRecDepth 100000 in
theorem kg_ls67 : kg_lks kg_cd67 kg_sp67 0 = some (1, 2, 1, 0, 0, []) ∧ kg_lks kg_cd67 kg_sp67 1 = some (4, 40, 61, 1, 55, []) ∧ kg_lks kg_cd67 kg_sp67 4 = some (7, 16, 0, 14, 0, []) ∧ kg_lks kg_cd67 kg_sp67 7 = some (8, 2, 2, 0, 0, []) ∧ kg_lks kg_cd67 kg_sp67 8 = some (11, 40, 61, 1, 55, []) ∧ kg_lks kg_cd67 kg_sp67 11 = some (14, 16, 1, 16, 0, []) ∧ kg_lks kg_cd67 kg_sp67 14 = some (15, 1, 1, 0, 0, []) ∧ kg_lks kg_cd67 kg_sp67 15 = some (16, 48, 0, 0, 0, []) ∧ kg_lks kg_cd67 kg_sp67 16 = some (17, 2, 1, 0, 0, []) ∧ kg_lks kg_cd67 kg_sp67 17 = some (18, 2, 2, 0, 0, []) ∧ kg_lks kg_cd67 kg_sp67 18 = some (21, 17, 1, 24, 0, []) ∧ kg_lks kg_cd67 kg_sp67 21 = some (23, 1, 2, 0, 0, []) ∧ kg_lks kg_cd67 kg_sp67 23 = some (24, 48, 0, 0, 0, []) ∧ kg_lks kg_cd67 kg_sp67 24 = some (25, 3, 0, 0, 0, []) ∧ kg_lks kg_cd67 kg_sp67 25 = some (28, 22, 5, 0, 12, []) ∧ kg_lks kg_cd67 kg_sp67 28 = some (31, 22, 4, 3, 58, []) ∧ kg_lks kg_cd67 kg_sp67 31 = some (32, 2, 1, 0, 0, []) ∧ kg_lks kg_cd67 kg_sp67 32 = some (33, 28, 0, 0, 0, []) ∧ kg_lks kg_cd67 kg_sp67 33 = some (36, 16, 0, 48, 0, []) ∧ kg_lks kg_cd67 kg_sp67 36 = some (37, 3, 0, 0, 0, []) ∧ kg_lks kg_cd67 kg_sp67 37 = some (40, 22, 5, 0, 12, []) ∧ kg_lks kg_cd67 kg_sp67 40 = some (43, 22, 4, 3, 58, []) ∧ kg_lks kg_cd67 kg_sp67 43 = some (44, 2, 2, 0, 0, []) ∧ kg_lks kg_cd67 kg_sp67 44 = some (45, 28, 0, 0, 0, []) ∧ kg_lks kg_cd67 kg_sp67 45 = some (48, 16, 1, 51, 0, []) ∧ kg_lks kg_cd67 kg_sp67 48 = some (50, 1, 4, 0, 0, []) ∧ kg_lks kg_cd67 kg_sp67 50 = some (51, 48, 0, 0, 0, []) ∧ kg_lks kg_cd67 kg_sp67 51 = some (52, 3, 0, 0, 0, []) ∧ kg_lks kg_cd67 kg_sp67 52 = some (55, 39, 59, 1, 52, []) ∧ kg_lks kg_cd67 kg_sp67 55 = some (56, 3, 0, 0, 0, []) ∧ kg_lks kg_cd67 kg_sp67 56 = some (59, 22, 5, 0, 12, []) ∧ kg_lks kg_cd67 kg_sp67 59 = some (60, 2, 1, 0, 0, []) ∧ kg_lks kg_cd67 kg_sp67 60 = some (61, 2, 2, 0, 0, []) ∧ kg_lks kg_cd67 kg_sp67 61 = some (64, 39, 33, 3, 98, []) ∧ kg_lks kg_cd67 kg_sp67 64 = some (65, 48, 0, 0, 0, []) := by refine ⟨?_, ?_, ?_, ?_, ?_, ?_, ?_, ?_, ?_, ?_, ?_, ?_, ?_, ?_, ?_, ?_, ?_, ?_, ?_, ?_, ?_, ?_, ?_, ?_, ?_, ?_, ?_, ?_, ?_, ?_, ?_, ?_, ?_, ?_, ?_⟩ <;> rfl
theorem kg_v67 {G : kg_G} (hL : G.2.2.2.2.2.1 < 2 ^ 31) {d N0 NX : Nat} (hd : 1 ≤ d) {K : kg_Qt} (f : Nat) {pc : Nat} {ls : List (Option Value)} {st : List Value} {w : kg_W} {M : kg_M} (h : kg_go G NX (kg_call G d NX) (kg_ret 1 NX K) kg_cd67 kg_sp67 (kg_P G d 67 3 N0 NX K) f pc ls st w M) : kg_P G d 67 3 N0 NX K pc ls st w M := kg_vgo hL hd kg_ok67 rfl rfl rfl rfl (fun e => by cases e) h
theorem kg_m67 {G : kg_G} {d NX : Nat} {K : kg_Qt} {args : List Value} {w : kg_W} {M : kg_M} (hal : args.length ≤ 3) (hw : w.1 ≤ NX) (h : kg_P G d 67 3 w.1 NX K 0 (kg_pad 3 args) [] w M) : kg_call G (d + 1) NX 67 args w M K := kg_P_call (by omega) rfl hal hw h
def kg_sp68 : List Nat := []
set_option maxRecDepth 100000 in
theorem kg_ls68 : kg_lks kg_cd68 kg_sp68 0 = some (1, 2, 0, 0, 0, []) ∧ kg_lks kg_cd68 kg_sp68 1 = some (2, 2, 1, 0, 0, []) ∧ kg_lks kg_cd68 kg_sp68 2 = some (5, 45, 0, 0, 241, []) ∧ kg_lks kg_cd68 kg_sp68 5 = some (6, 0, 4, 0, 0, []) ∧ kg_lks kg_cd68 kg_sp68 6 = some (7, 9, 0, 0, 0, []) ∧ kg_lks kg_cd68 kg_sp68 7 = some (8, 2, 0, 0, 0, []) ∧ kg_lks kg_cd68 kg_sp68 8 = some (9, 2, 1, 0, 0, []) ∧ kg_lks kg_cd68 kg_sp68 9 = some (12, 46, 0, 0, 246, []) ∧ kg_lks kg_cd68 kg_sp68 12 = some (13, 7, 0, 0, 0, []) ∧ kg_lks kg_cd68 kg_sp68 13 = some (14, 48, 0, 0, 0, []) := by refine ⟨?_, ?_, ?_, ?_, ?_, ?_, ?_, ?_, ?_, ?_⟩ <;> rfl
theorem kg_v68 {G : kg_G} (hL : G.2.2.2.2.2.1 < 2 ^ 31) {d N0 NX : Nat} (hd : 1 ≤ d) {K : kg_Qt} (f : Nat) {pc : Nat} {ls : List (Option Value)} {st : List Value} {w : kg_W} {M : kg_M} (h : kg_go G NX (kg_call G d NX) (kg_ret 1 NX K) kg_cd68 kg_sp68 (kg_P G d 68 2 N0 NX K) f pc ls st w M) : kg_P G d 68 2 N0 NX K pc ls st w M := kg_vgo hL hd kg_ok68 rfl rfl rfl rfl (fun e => by cases e) h
theorem kg_m68 {G : kg_G} {d NX : Nat} {K : kg_Qt} {args : List Value} {w : kg_W} {M : kg_M} (hal : args.length ≤ 2) (hw : w.1 ≤ NX) (h : kg_P G d 68 2 w.1 NX K 0 (kg_pad 2 args) [] w M) : kg_call G (d + 1) NX 68 args w M K := kg_P_call (by omega) rfl hal hw h
def kg_sp69 : List Nat := []
set_option maxRecDepth 100000 in
theorem kg_ls69 : kg_lks kg_cd69 kg_sp69 0 = some (1, 2, 1, 0, 0, []) ∧ kg_lks kg_cd69 kg_sp69 1 = some (4, 40, 61, 1, 55, []) ∧ kg_lks kg_cd69 kg_sp69 4 = some (7, 16, 1, 9, 0, []) ∧ kg_lks kg_cd69 kg_sp69 7 = some (8, 1, 1, 0, 0, []) ∧ kg_lks kg_cd69 kg_sp69 8 = some (9, 48, 0, 0, 0, []) ∧ kg_lks kg_cd69 kg_sp69 9 = some (10, 3, 0, 0, 0, []) ∧ kg_lks kg_cd69 kg_sp69 10 = some (13, 22, 5, 0, 12, []) ∧ kg_lks kg_cd69 kg_sp69 13 = some (16, 22, 4, 3, 58, []) ∧ kg_lks kg_cd69 kg_sp69 16 = some (17, 2, 1, 0, 0, []) ∧ kg_lks kg_cd69 kg_sp69 17 = some (18, 28, 0, 0, 0, []) ∧ kg_lks kg_cd69 kg_sp69 18 = some (21, 16, 1, 24, 0, []) ∧ kg_lks kg_cd69 kg_sp69 21 = some (23, 1, 4, 0, 0, []) ∧ kg_lks kg_cd69 kg_sp69 23 = some (24, 48, 0, 0, 0, []) ∧ kg_lks kg_cd69 kg_sp69 24 = some (25, 3, 0, 0, 0, []) ∧ kg_lks kg_cd69 kg_sp69 25 = some (28, 22, 5, 0, 12, []) ∧ kg_lks kg_cd69 kg_sp69 28 = some (29, 2, 1, 0, 0, []) ∧ kg_lks kg_cd69 kg_sp69 29 = some (32, 39, 36, 2, 101, []) ∧ kg_lks kg_cd69 kg_sp69 32 = some (35, 16, 1, 38, 0, []) ∧ kg_lks kg_cd69 kg_sp69 35 = some (37, 1, 5, 0, 0, []) ∧ kg_lks kg_cd69 kg_sp69 37 = some (38, 48, 0, 0, 0, []) ∧ kg_lks kg_cd69 kg_sp69 38 = some (39, 3, 0, 0, 0, []) ∧ kg_lks kg_cd69 kg_sp69 39 = some (42, 39, 59, 1, 52, []) ∧ kg_lks kg_cd69 kg_sp69 42 = some (43, 3, 0, 0, 0, []) ∧ kg_lks kg_cd69 kg_sp69 43 = some (46, 22, 5, 0, 12, []) ∧ kg_lks kg_cd69 kg_sp69 46 = some (47, 2, 1, 0, 0, []) ∧ kg_lks kg_cd69 kg_sp69 47 = some (50, 39, 41, 2, 104, []) ∧ kg_lks kg_cd69 kg_sp69 50 = some (51, 48, 0, 0, 0, []) := by refine ⟨?_, ?_, ?_, ?_, ?_, ?_, ?_, ?_, ?_, ?_, ?_, ?_, ?_, ?_, ?_, ?_, ?_, ?_, ?_, ?_, ?_, ?_, ?_, ?_, ?_, ?_, ?_⟩ <;> rfl
theorem kg_v69 {G : kg_G} (hL : G.2.2.2.2.2.1 < 2 ^ 31) {d N0 NX : Nat} (hd : 1 ≤ d) {K : kg_Qt} (f : Nat) {pc : Nat} {ls : List (Option Value)} {st : List Value} {w : kg_W} {M : kg_M} (h : kg_go G NX (kg_call G d NX) (kg_ret 1 NX K) kg_cd69 kg_sp69 (kg_P G d 69 2 N0 NX K) f pc ls st w M) : kg_P G d 69 2 N0 NX K pc ls st w M := kg_vgo hL hd kg_ok69 rfl rfl rfl rfl (fun e => by cases e) h
theorem kg_m69 {G : kg_G} {d NX : Nat} {K : kg_Qt} {args : List Value} {w : kg_W} {M : kg_M} (hal : args.length ≤ 2) (hw : w.1 ≤ NX) (h : kg_P G d 69 2 w.1 NX K 0 (kg_pad 2 args) [] w M) : kg_call G (d + 1) NX 69 args w M K := kg_P_call (by omega) rfl hal hw h
def kg_sp70 : List Nat := []
set_option maxRecDepth 100000 in
theorem kg_ls70 : kg_lks kg_cd70 kg_sp70 0 = some (1, 2, 1, 0, 0, []) ∧ kg_lks kg_cd70 kg_sp70 1 = some (4, 40, 61, 1, 55, []) ∧ kg_lks kg_cd70 kg_sp70 4 = some (7, 16, 0, 14, 0, []) ∧ kg_lks kg_cd70 kg_sp70 7 = some (8, 2, 2, 0, 0, []) ∧ kg_lks kg_cd70 kg_sp70 8 = some (11, 40, 61, 1, 55, []) ∧ kg_lks kg_cd70 kg_sp70 11 = some (14, 16, 1, 16, 0, []) ∧ kg_lks kg_cd70 kg_sp70 14 = some (15, 1, 1, 0, 0, []) ∧ kg_lks kg_cd70 kg_sp70 15 = some (16, 48, 0, 0, 0, []) ∧ kg_lks kg_cd70 kg_sp70 16 = some (17, 2, 3, 0, 0, []) ∧ kg_lks kg_cd70 kg_sp70 17 = some (20, 16, 2, 32, 0, []) ∧ kg_lks kg_cd70 kg_sp70 20 = some (21, 2, 3, 0, 0, []) ∧ kg_lks kg_cd70 kg_sp70 21 = some (24, 0, 9999, 0, 0, []) ∧ kg_lks kg_cd70 kg_sp70 24 = some (27, 17, 4, 32, 0, []) ∧ kg_lks kg_cd70 kg_sp70 27 = some (28, 2, 1, 0, 0, []) ∧ kg_lks kg_cd70 kg_sp70 28 = some (29, 2, 2, 0, 0, []) ∧ kg_lks kg_cd70 kg_sp70 29 = some (32, 17, 1, 35, 0, []) ∧ kg_lks kg_cd70 kg_sp70 32 = some (34, 1, 2, 0, 0, []) ∧ kg_lks kg_cd70 kg_sp70 34 = some (35, 48, 0, 0, 0, []) ∧ kg_lks kg_cd70 kg_sp70 35 = some (36, 3, 0, 0, 0, []) ∧ kg_lks kg_cd70 kg_sp70 36 = some (39, 22, 5, 0, 12, []) ∧ kg_lks kg_cd70 kg_sp70 39 = some (42, 22, 4, 6, 107, []) ∧ kg_lks kg_cd70 kg_sp70 42 = some (45, 21, 2, 0, 111, []) ∧ kg_lks kg_cd70 kg_sp70 45 = some (47, 0, 10, 0, 0, []) ∧ kg_lks kg_cd70 kg_sp70 47 = some (50, 17, 2, 53, 0, []) ∧ kg_lks kg_cd70 kg_sp70 50 = some (52, 1, 3, 0, 0, []) ∧ kg_lks kg_cd70 kg_sp70 52 = some (53, 48, 0, 0, 0, []) ∧ kg_lks kg_cd70 kg_sp70 53 = some (54, 3, 0, 0, 0, []) ∧ kg_lks kg_cd70 kg_sp70 54 = some (57, 39, 59, 1, 52, []) ∧ kg_lks kg_cd70 kg_sp70 57 = some (58, 3, 0, 0, 0, []) ∧ kg_lks kg_cd70 kg_sp70 58 = some (61, 22, 5, 0, 12, []) ∧ kg_lks kg_cd70 kg_sp70 61 = some (64, 22, 4, 6, 107, []) ∧ kg_lks kg_cd70 kg_sp70 64 = some (65, 2, 1, 0, 0, []) ∧ kg_lks kg_cd70 kg_sp70 65 = some (66, 2, 2, 0, 0, []) ∧ kg_lks kg_cd70 kg_sp70 66 = some (67, 2, 3, 0, 0, []) ∧ kg_lks kg_cd70 kg_sp70 67 = some (70, 39, 13, 4, 116, []) ∧ kg_lks kg_cd70 kg_sp70 70 = some (71, 3, 0, 0, 0, []) ∧ kg_lks kg_cd70 kg_sp70 71 = some (74, 22, 5, 0, 12, []) ∧ kg_lks kg_cd70 kg_sp70 74 = some (77, 22, 4, 6, 107, []) ∧ kg_lks kg_cd70 kg_sp70 77 = some (80, 21, 2, 0, 111, []) ∧ kg_lks kg_cd70 kg_sp70 80 = some (81, 48, 0, 0, 0, []) := by refine ⟨?_, ?_, ?_, ?_, ?_, ?_, ?_, ?_, ?_, ?_, ?_, ?_, ?_, ?_, ?_, ?_, ?_, ?_, ?_, ?_, ?_, ?_, ?_, ?_, ?_, ?_, ?_, ?_, ?_, ?_, ?_, ?_, ?_, ?_, ?_, ?_, ?_, ?_, ?_, ?_⟩ <;> rfl
theorem kg_v70 {G : kg_G} (hL : G.2.2.2.2.2.1 < 2 ^ 31) {d N0 NX : Nat} (hd : 1 ≤ d) {K : kg_Qt} (f : Nat) {pc : Nat} {ls : List (Option Value)} {st : List Value} {w : kg_W} {M : kg_M} (h : kg_go G NX (kg_call G d NX) (kg_ret 1 NX K) kg_cd70 kg_sp70 (kg_P G d 70 4 N0 NX K) f pc ls st w M) : kg_P G d 70 4 N0 NX K pc ls st w M := kg_vgo hL hd kg_ok70 rfl rfl rfl rfl (fun e => by cases e) h
theorem kg_m70 {G : kg_G} {d NX : Nat} {K : kg_Qt} {args : List Value} {w : kg_W} {M : kg_M} (hal : args.length ≤ 4) (hw : w.1 ≤ NX) (h : kg_P G d 70 4 w.1 NX K 0 (kg_pad 4 args) [] w M) : kg_call G (d + 1) NX 70 args w M K := kg_P_call (by omega) rfl hal hw h
def kg_sp72 : List Nat := [39]
set_option maxRecDepth 100000 in
theorem kg_ls72 : kg_lks kg_cd72 kg_sp72 0 = some (1, 2, 1, 0, 0, []) ∧ kg_lks kg_cd72 kg_sp72 1 = some (2, 0, 1, 0, 0, []) ∧ kg_lks kg_cd72 kg_sp72 2 = some (5, 17, 2, 11, 0, []) ∧ kg_lks kg_cd72 kg_sp72 5 = some (6, 2, 1, 0, 0, []) ∧ kg_lks kg_cd72 kg_sp72 6 = some (8, 0, 99, 0, 0, []) ∧ kg_lks kg_cd72 kg_sp72 8 = some (11, 17, 5, 14, 0, []) ∧ kg_lks kg_cd72 kg_sp72 11 = some (13, 1, 2, 0, 0, []) ∧ kg_lks kg_cd72 kg_sp72 13 = some (14, 48, 0, 0, 0, []) ∧ kg_lks kg_cd72 kg_sp72 14 = some (15, 3, 0, 0, 0, []) ∧ kg_lks kg_cd72 kg_sp72 15 = some (18, 22, 5, 0, 12, []) ∧ kg_lks kg_cd72 kg_sp72 18 = some (21, 21, 4, 0, 130, []) ∧ kg_lks kg_cd72 kg_sp72 21 = some (22, 2, 1, 0, 0, []) ∧ kg_lks kg_cd72 kg_sp72 22 = some (23, 7, 0, 0, 0, []) ∧ kg_lks kg_cd72 kg_sp72 23 = some (25, 0, 99999, 0, 133, []) ∧ kg_lks kg_cd72 kg_sp72 25 = some (28, 17, 5, 31, 0, []) ∧ kg_lks kg_cd72 kg_sp72 28 = some (30, 1, 3, 0, 0, []) ∧ kg_lks kg_cd72 kg_sp72 30 = some (31, 48, 0, 0, 0, []) ∧ kg_lks kg_cd72 kg_sp72 31 = some (32, 3, 0, 0, 0, []) ∧ kg_lks kg_cd72 kg_sp72 32 = some (35, 39, 59, 1, 52, []) ∧ kg_lks kg_cd72 kg_sp72 35 = some (36, 0, 0, 0, 0, []) ∧ kg_lks kg_cd72 kg_sp72 36 = some (37, 4, 2, 0, 0, []) ∧ kg_lks kg_cd72 kg_sp72 37 = some (38, 0, 0, 0, 0, []) ∧ kg_lks kg_cd72 kg_sp72 38 = some (39, 4, 3, 0, 0, []) ∧ kg_lks kg_cd72 kg_sp72 39 = none ∧ kg_lks kg_cd72 kg_sp72 40 = some (41, 2, 1, 0, 0, []) ∧ kg_lks kg_cd72 kg_sp72 41 = some (44, 17, 3, 60, 0, []) ∧ kg_lks kg_cd72 kg_sp72 44 = some (45, 2, 2, 0, 0, []) ∧ kg_lks kg_cd72 kg_sp72 45 = some (46, 3, 0, 0, 0, []) ∧ kg_lks kg_cd72 kg_sp72 46 = some (49, 22, 5, 0, 12, []) ∧ kg_lks kg_cd72 kg_sp72 49 = some (52, 39, 42, 1, 134, []) ∧ kg_lks kg_cd72 kg_sp72 52 = some (53, 7, 0, 0, 0, []) ∧ kg_lks kg_cd72 kg_sp72 53 = some (54, 4, 2, 0, 0, []) ∧ kg_lks kg_cd72 kg_sp72 54 = some (57, 6, 3, 1, 0, []) ∧ kg_lks kg_cd72 kg_sp72 57 = some (60, 18, 0, 39, 0, []) ∧ kg_lks kg_cd72 kg_sp72 60 = some (61, 2, 2, 0, 0, []) ∧ kg_lks kg_cd72 kg_sp72 61 = some (62, 48, 0, 0, 0, []) := by refine ⟨?_, ?_, ?_, ?_, ?_, ?_, ?_, ?_, ?_, ?_, ?_, ?_, ?_, ?_, ?_, ?_, ?_, ?_, ?_, ?_, ?_, ?_, ?_, ?_, ?_, ?_, ?_, ?_, ?_, ?_, ?_, ?_, ?_, ?_, ?_, ?_⟩ <;> rfl
theorem kg_v72 {G : kg_G} (hL : G.2.2.2.2.2.1 < 2 ^ 31) {d N0 NX : Nat} (hd : 1 ≤ d) {K : kg_Qt} (f : Nat) {pc : Nat} {ls : List (Option Value)} {st : List Value} {w : kg_W} {M : kg_M} (h : kg_go G NX (kg_call G d NX) (kg_ret 1 NX K) kg_cd72 kg_sp72 (kg_P G d 72 4 N0 NX K) f pc ls st w M) : kg_P G d 72 4 N0 NX K pc ls st w M := kg_vgo hL hd kg_ok72 rfl rfl rfl rfl (fun e => by cases e) h
theorem kg_m72 {G : kg_G} {d NX : Nat} {K : kg_Qt} {args : List Value} {w : kg_W} {M : kg_M} (hal : args.length ≤ 4) (hw : w.1 ≤ NX) (h : kg_P G d 72 4 w.1 NX K 0 (kg_pad 4 args) [] w M) : kg_call G (d + 1) NX 72 args w M K := kg_P_call (by omega) rfl hal hw h
def kg_sp78 : List Nat := []
set_option maxRecDepth 100000 in
theorem kg_ls78 : kg_lks kg_cd78 kg_sp78 0 = some (1, 2, 1, 0, 0, []) ∧ kg_lks kg_cd78 kg_sp78 1 = some (4, 40, 61, 1, 55, []) ∧ kg_lks kg_cd78 kg_sp78 4 = some (7, 16, 0, 14, 0, []) ∧ kg_lks kg_cd78 kg_sp78 7 = some (8, 2, 2, 0, 0, []) ∧ kg_lks kg_cd78 kg_sp78 8 = some (11, 40, 63, 1, 66, []) ∧ kg_lks kg_cd78 kg_sp78 11 = some (14, 16, 1, 16, 0, []) ∧ kg_lks kg_cd78 kg_sp78 14 = some (15, 1, 1, 0, 0, []) ∧ kg_lks kg_cd78 kg_sp78 15 = some (16, 48, 0, 0, 0, []) ∧ kg_lks kg_cd78 kg_sp78 16 = some (17, 3, 0, 0, 0, []) ∧ kg_lks kg_cd78 kg_sp78 17 = some (20, 22, 5, 0, 12, []) ∧ kg_lks kg_cd78 kg_sp78 20 = some (23, 22, 4, 4, 85, []) ∧ kg_lks kg_cd78 kg_sp78 23 = some (25, 5, 4, 0, 0, []) ∧ kg_lks kg_cd78 kg_sp78 25 = some (26, 2, 1, 0, 0, []) ∧ kg_lks kg_cd78 kg_sp78 26 = some (27, 2, 2, 0, 0, []) ∧ kg_lks kg_cd78 kg_sp78 27 = some (30, 40, 64, 2, 89, []) ∧ kg_lks kg_cd78 kg_sp78 30 = some (32, 4, 5, 0, 0, []) ∧ kg_lks kg_cd78 kg_sp78 32 = some (34, 3, 4, 0, 0, []) ∧ kg_lks kg_cd78 kg_sp78 34 = some (36, 2, 5, 0, 0, []) ∧ kg_lks kg_cd78 kg_sp78 36 = some (39, 39, 7, 2, 148, []) ∧ kg_lks kg_cd78 kg_sp78 39 = some (42, 16, 0, 46, 0, []) ∧ kg_lks kg_cd78 kg_sp78 42 = some (43, 0, 1, 0, 0, []) ∧ kg_lks kg_cd78 kg_sp78 43 = some (46, 18, 0, 47, 0, []) ∧ kg_lks kg_cd78 kg_sp78 46 = some (47, 0, 0, 0, 0, []) ∧ kg_lks kg_cd78 kg_sp78 47 = some (49, 4, 6, 0, 0, []) ∧ kg_lks kg_cd78 kg_sp78 49 = some (50, 2, 3, 0, 0, []) ∧ kg_lks kg_cd78 kg_sp78 50 = some (92, 19, 0, 201, 42, [(0, 92), (1, 100), (2, 108), (3, 127), (4, 146), (5, 164), (6, 182)]) ∧ kg_lks kg_cd78 kg_sp78 92 = some (94, 3, 4, 0, 0, []) ∧ kg_lks kg_cd78 kg_sp78 94 = some (96, 2, 5, 0, 0, []) ∧ kg_lks kg_cd78 kg_sp78 96 = some (99, 39, 7, 2, 148, []) ∧ kg_lks kg_cd78 kg_sp78 99 = some (100, 48, 0, 0, 0, []) ∧ kg_lks kg_cd78 kg_sp78 100 = some (102, 3, 4, 0, 0, []) ∧ kg_lks kg_cd78 kg_sp78 102 = some (104, 2, 5, 0, 0, []) ∧ kg_lks kg_cd78 kg_sp78 104 = some (107, 39, 9, 2, 92, []) ∧ kg_lks kg_cd78 kg_sp78 107 = some (108, 48, 0, 0, 0, []) ∧ kg_lks kg_cd78 kg_sp78 108 = some (110, 2, 6, 0, 0, []) ∧ kg_lks kg_cd78 kg_sp78 110 = some (113, 16, 0, 124, 0, []) ∧ kg_lks kg_cd78 kg_sp78 113 = some (115, 3, 4, 0, 0, []) ∧ kg_lks kg_cd78 kg_sp78 115 = some (118, 22, 1, 0, 151, []) ∧ kg_lks kg_cd78 kg_sp78 118 = some (120, 2, 5, 0, 0, []) ∧ kg_lks kg_cd78 kg_sp78 120 = some (121, 27, 0, 0, 0, []) ∧ kg_lks kg_cd78 kg_sp78 121 = some (124, 18, 0, 126, 0, []) ∧ kg_lks kg_cd78 kg_sp78 124 = some (126, 1, 5, 0, 0, []) ∧ kg_lks kg_cd78 kg_sp78 126 = some (127, 48, 0, 0, 0, []) ∧ kg_lks kg_cd78 kg_sp78 127 = some (129, 2, 6, 0, 0, []) ∧ kg_lks kg_cd78 kg_sp78 129 = some (132, 16, 0, 143, 0, []) ∧ kg_lks kg_cd78 kg_sp78 132 = some (134, 3, 4, 0, 0, []) ∧ kg_lks kg_cd78 kg_sp78 134 = some (137, 22, 1, 2, 154, []) ∧ kg_lks kg_cd78 kg_sp78 137 = some (139, 2, 5, 0, 0, []) ∧ kg_lks kg_cd78 kg_sp78 139 = some (140, 27, 0, 0, 0, []) ∧ kg_lks kg_cd78 kg_sp78 140 = some (143, 18, 0, 145, 0, []) ∧ kg_lks kg_cd78 kg_sp78 143 = some (145, 1, 5, 0, 0, []) ∧ kg_lks kg_cd78 kg_sp78 145 = some (146, 48, 0, 0, 0, []) ∧ kg_lks kg_cd78 kg_sp78 146 = some (147, 3, 0, 0, 0, []) ∧ kg_lks kg_cd78 kg_sp78 147 = some (150, 22, 5, 0, 12, []) ∧ kg_lks kg_cd78 kg_sp78 150 = some (151, 2, 1, 0, 0, []) ∧ kg_lks kg_cd78 kg_sp78 151 = some (152, 2, 2, 0, 0, []) ∧ kg_lks kg_cd78 kg_sp78 152 = some (155, 39, 38, 3, 157, []) ∧ kg_lks kg_cd78 kg_sp78 155 = some (158, 16, 0, 162, 0, []) ∧ kg_lks kg_cd78 kg_sp78 158 = some (159, 0, 1, 0, 0, []) ∧ kg_lks kg_cd78 kg_sp78 159 = some (162, 18, 0, 163, 0, []) ∧ kg_lks kg_cd78 kg_sp78 162 = some (163, 0, 0, 0, 0, []) ∧ kg_lks kg_cd78 kg_sp78 163 = some (164, 48, 0, 0, 0, []) ∧ kg_lks kg_cd78 kg_sp78 164 = some (165, 3, 0, 0, 0, []) ∧ kg_lks kg_cd78 kg_sp78 165 = some (168, 22, 5, 0, 12, []) ∧ kg_lks kg_cd78 kg_sp78 168 = some (169, 2, 1, 0, 0, []) ∧ kg_lks kg_cd78 kg_sp78 169 = some (170, 2, 2, 0, 0, []) ∧ kg_lks kg_cd78 kg_sp78 170 = some (173, 39, 31, 3, 160, []) ∧ kg_lks kg_cd78 kg_sp78 173 = some (176, 16, 0, 180, 0, []) ∧ kg_lks kg_cd78 kg_sp78 176 = some (177, 0, 1, 0, 0, []) ∧ kg_lks kg_cd78 kg_sp78 177 = some (180, 18, 0, 181, 0, []) ∧ kg_lks kg_cd78 kg_sp78 180 = some (181, 0, 0, 0, 0, []) ∧ kg_lks kg_cd78 kg_sp78 181 = some (182, 48, 0, 0, 0, []) ∧ kg_lks kg_cd78 kg_sp78 182 = some (184, 2, 6, 0, 0, []) ∧ kg_lks kg_cd78 kg_sp78 184 = some (187, 16, 0, 198, 0, []) ∧ kg_lks kg_cd78 kg_sp78 187 = some (189, 3, 4, 0, 0, []) ∧ kg_lks kg_cd78 kg_sp78 189 = some (192, 22, 1, 3, 163, []) ∧ kg_lks kg_cd78 kg_sp78 192 = some (194, 2, 5, 0, 0, []) ∧ kg_lks kg_cd78 kg_sp78 194 = some (195, 27, 0, 0, 0, []) ∧ kg_lks kg_cd78 kg_sp78 195 = some (198, 18, 0, 200, 0, []) ∧ kg_lks kg_cd78 kg_sp78 198 = some (200, 1, 5, 0, 0, []) ∧ kg_lks kg_cd78 kg_sp78 200 = some (201, 48, 0, 0, 0, []) ∧ kg_lks kg_cd78 kg_sp78 201 = some (203, 1, 2, 0, 0, []) ∧ kg_lks kg_cd78 kg_sp78 203 = some (204, 48, 0, 0, 0, []) := by refine ⟨?_, ?_, ?_, ?_, ?_, ?_, ?_, ?_, ?_, ?_, ?_, ?_, ?_, ?_, ?_, ?_, ?_, ?_, ?_, ?_, ?_, ?_, ?_, ?_, ?_, ?_, ?_, ?_, ?_, ?_, ?_, ?_, ?_, ?_, ?_, ?_, ?_, ?_, ?_, ?_, ?_, ?_, ?_, ?_, ?_, ?_, ?_, ?_, ?_, ?_, ?_, ?_, ?_, ?_, ?_, ?_, ?_, ?_, ?_, ?_, ?_, ?_, ?_, ?_, ?_, ?_, ?_, ?_, ?_, ?_, ?_, ?_, ?_, ?_, ?_, ?_, ?_, ?_, ?_, ?_, ?_, ?_, ?_⟩ <;> rfl
theorem kg_v78 {G : kg_G} (hL : G.2.2.2.2.2.1 < 2 ^ 31) {d N0 NX : Nat} (hd : 1 ≤ d) {K : kg_Qt} (f : Nat) {pc : Nat} {ls : List (Option Value)} {st : List Value} {w : kg_W} {M : kg_M} (h : kg_go G NX (kg_call G d NX) (kg_ret 1 NX K) kg_cd78 kg_sp78 (kg_P G d 78 7 N0 NX K) f pc ls st w M) : kg_P G d 78 7 N0 NX K pc ls st w M := kg_vgo hL hd kg_ok78 rfl rfl rfl rfl (fun e => by cases e) h
theorem kg_m78 {G : kg_G} {d NX : Nat} {K : kg_Qt} {args : List Value} {w : kg_W} {M : kg_M} (hal : args.length ≤ 7) (hw : w.1 ≤ NX) (h : kg_P G d 78 7 w.1 NX K 0 (kg_pad 7 args) [] w M) : kg_call G (d + 1) NX 78 args w M K := kg_P_call (by omega) rfl hal hw h
def kg_sp79 : List Nat := []
set_option maxRecDepth 100000 in
theorem kg_ls79 : kg_lks kg_cd79 kg_sp79 0 = some (1, 2, 1, 0, 0, []) ∧ kg_lks kg_cd79 kg_sp79 1 = some (4, 40, 63, 1, 66, []) ∧ kg_lks kg_cd79 kg_sp79 4 = some (7, 16, 1, 9, 0, []) ∧ kg_lks kg_cd79 kg_sp79 7 = some (8, 1, 1, 0, 0, []) ∧ kg_lks kg_cd79 kg_sp79 8 = some (9, 48, 0, 0, 0, []) ∧ kg_lks kg_cd79 kg_sp79 9 = some (10, 0, 4, 0, 0, []) ∧ kg_lks kg_cd79 kg_sp79 10 = some (11, 2, 1, 0, 0, []) ∧ kg_lks kg_cd79 kg_sp79 11 = some (14, 40, 64, 2, 89, []) ∧ kg_lks kg_cd79 kg_sp79 14 = some (15, 4, 3, 0, 0, []) ∧ kg_lks kg_cd79 kg_sp79 15 = some (16, 2, 2, 0, 0, []) ∧ kg_lks kg_cd79 kg_sp79 16 = some (52, 19, 0, 112, 36, [(0, 52), (1, 64), (2, 76), (3, 85), (4, 94)]) ∧ kg_lks kg_cd79 kg_sp79 52 = some (53, 3, 0, 0, 0, []) ∧ kg_lks kg_cd79 kg_sp79 53 = some (56, 22, 5, 0, 12, []) ∧ kg_lks kg_cd79 kg_sp79 56 = some (59, 22, 4, 4, 85, []) ∧ kg_lks kg_cd79 kg_sp79 59 = some (60, 2, 3, 0, 0, []) ∧ kg_lks kg_cd79 kg_sp79 60 = some (63, 39, 7, 2, 148, []) ∧ kg_lks kg_cd79 kg_sp79 63 = some (64, 48, 0, 0, 0, []) ∧ kg_lks kg_cd79 kg_sp79 64 = some (65, 3, 0, 0, 0, []) ∧ kg_lks kg_cd79 kg_sp79 65 = some (68, 22, 5, 0, 12, []) ∧ kg_lks kg_cd79 kg_sp79 68 = some (71, 22, 4, 4, 85, []) ∧ kg_lks kg_cd79 kg_sp79 71 = some (72, 2, 3, 0, 0, []) ∧ kg_lks kg_cd79 kg_sp79 72 = some (75, 39, 9, 2, 92, []) ∧ kg_lks kg_cd79 kg_sp79 75 = some (76, 48, 0, 0, 0, []) ∧ kg_lks kg_cd79 kg_sp79 76 = some (77, 3, 0, 0, 0, []) ∧ kg_lks kg_cd79 kg_sp79 77 = some (80, 22, 5, 0, 12, []) ∧ kg_lks kg_cd79 kg_sp79 80 = some (81, 2, 1, 0, 0, []) ∧ kg_lks kg_cd79 kg_sp79 81 = some (84, 39, 43, 2, 166, []) ∧ kg_lks kg_cd79 kg_sp79 84 = some (85, 48, 0, 0, 0, []) ∧ kg_lks kg_cd79 kg_sp79 85 = some (86, 3, 0, 0, 0, []) ∧ kg_lks kg_cd79 kg_sp79 86 = some (89, 22, 5, 0, 12, []) ∧ kg_lks kg_cd79 kg_sp79 89 = some (90, 2, 1, 0, 0, []) ∧ kg_lks kg_cd79 kg_sp79 90 = some (93, 39, 44, 2, 169, []) ∧ kg_lks kg_cd79 kg_sp79 93 = some (94, 48, 0, 0, 0, []) ∧ kg_lks kg_cd79 kg_sp79 94 = some (95, 3, 0, 0, 0, []) ∧ kg_lks kg_cd79 kg_sp79 95 = some (98, 22, 5, 0, 12, []) ∧ kg_lks kg_cd79 kg_sp79 98 = some (99, 0, 4, 0, 0, []) ∧ kg_lks kg_cd79 kg_sp79 99 = some (100, 2, 1, 0, 0, []) ∧ kg_lks kg_cd79 kg_sp79 100 = some (103, 39, 45, 3, 172, []) ∧ kg_lks kg_cd79 kg_sp79 103 = some (106, 16, 0, 110, 0, []) ∧ kg_lks kg_cd79 kg_sp79 106 = some (107, 0, 1, 0, 0, []) ∧ kg_lks kg_cd79 kg_sp79 107 = some (110, 18, 0, 111, 0, []) ∧ kg_lks kg_cd79 kg_sp79 110 = some (111, 0, 0, 0, 0, []) ∧ kg_lks kg_cd79 kg_sp79 111 = some (112, 48, 0, 0, 0, []) ∧ kg_lks kg_cd79 kg_sp79 112 = some (114, 1, 2, 0, 0, []) ∧ kg_lks kg_cd79 kg_sp79 114 = some (115, 48, 0, 0, 0, []) := by refine ⟨?_, ?_, ?_, ?_, ?_, ?_, ?_, ?_, ?_, ?_, ?_, ?_, ?_, ?_, ?_, ?_, ?_, ?_, ?_, ?_, ?_, ?_, ?_, ?_, ?_, ?_, ?_, ?_, ?_, ?_, ?_, ?_, ?_, ?_, ?_, ?_, ?_, ?_, ?_, ?_, ?_, ?_, ?_, ?_, ?_⟩ <;> rfl
theorem kg_v79 {G : kg_G} (hL : G.2.2.2.2.2.1 < 2 ^ 31) {d N0 NX : Nat} (hd : 1 ≤ d) {K : kg_Qt} (f : Nat) {pc : Nat} {ls : List (Option Value)} {st : List Value} {w : kg_W} {M : kg_M} (h : kg_go G NX (kg_call G d NX) (kg_ret 1 NX K) kg_cd79 kg_sp79 (kg_P G d 79 4 N0 NX K) f pc ls st w M) : kg_P G d 79 4 N0 NX K pc ls st w M := kg_vgo hL hd kg_ok79 rfl rfl rfl rfl (fun e => by cases e) h
theorem kg_m79 {G : kg_G} {d NX : Nat} {K : kg_Qt} {args : List Value} {w : kg_W} {M : kg_M} (hal : args.length ≤ 4) (hw : w.1 ≤ NX) (h : kg_P G d 79 4 w.1 NX K 0 (kg_pad 4 args) [] w M) : kg_call G (d + 1) NX 79 args w M K := kg_P_call (by omega) rfl hal hw h
def kg_sp80 : List Nat := []
set_option maxRecDepth 100000 in
theorem kg_ls80 : kg_lks kg_cd80 kg_sp80 0 = some (1, 2, 1, 0, 0, []) ∧ kg_lks kg_cd80 kg_sp80 1 = some (4, 40, 61, 1, 55, []) ∧ kg_lks kg_cd80 kg_sp80 4 = some (7, 16, 1, 9, 0, []) ∧ kg_lks kg_cd80 kg_sp80 7 = some (8, 1, 1, 0, 0, []) ∧ kg_lks kg_cd80 kg_sp80 8 = some (9, 48, 0, 0, 0, []) ∧ kg_lks kg_cd80 kg_sp80 9 = some (10, 2, 2, 0, 0, []) ∧ kg_lks kg_cd80 kg_sp80 10 = some (48, 19, 0, 113, 38, [(0, 48), (1, 66), (2, 76), (3, 86), (4, 95), (5, 104)]) ∧ kg_lks kg_cd80 kg_sp80 48 = some (49, 3, 0, 0, 0, []) ∧ kg_lks kg_cd80 kg_sp80 49 = some (52, 22, 5, 0, 12, []) ∧ kg_lks kg_cd80 kg_sp80 52 = some (55, 22, 4, 3, 58, []) ∧ kg_lks kg_cd80 kg_sp80 55 = some (56, 2, 1, 0, 0, []) ∧ kg_lks kg_cd80 kg_sp80 56 = some (57, 28, 0, 0, 0, []) ∧ kg_lks kg_cd80 kg_sp80 57 = some (60, 16, 0, 64, 0, []) ∧ kg_lks kg_cd80 kg_sp80 60 = some (61, 0, 1, 0, 0, []) ∧ kg_lks kg_cd80 kg_sp80 61 = some (64, 18, 0, 65, 0, []) ∧ kg_lks kg_cd80 kg_sp80 64 = some (65, 0, 0, 0, 0, []) ∧ kg_lks kg_cd80 kg_sp80 65 = some (66, 48, 0, 0, 0, []) ∧ kg_lks kg_cd80 kg_sp80 66 = some (67, 3, 0, 0, 0, []) ∧ kg_lks kg_cd80 kg_sp80 67 = some (70, 22, 5, 0, 12, []) ∧ kg_lks kg_cd80 kg_sp80 70 = some (71, 2, 1, 0, 0, []) ∧ kg_lks kg_cd80 kg_sp80 71 = some (72, 0, 1, 0, 0, []) ∧ kg_lks kg_cd80 kg_sp80 72 = some (75, 39, 46, 3, 175, []) ∧ kg_lks kg_cd80 kg_sp80 75 = some (76, 48, 0, 0, 0, []) ∧ kg_lks kg_cd80 kg_sp80 76 = some (77, 3, 0, 0, 0, []) ∧ kg_lks kg_cd80 kg_sp80 77 = some (80, 22, 5, 0, 12, []) ∧ kg_lks kg_cd80 kg_sp80 80 = some (81, 2, 1, 0, 0, []) ∧ kg_lks kg_cd80 kg_sp80 81 = some (82, 0, 2, 0, 0, []) ∧ kg_lks kg_cd80 kg_sp80 82 = some (85, 39, 46, 3, 175, []) ∧ kg_lks kg_cd80 kg_sp80 85 = some (86, 48, 0, 0, 0, []) ∧ kg_lks kg_cd80 kg_sp80 86 = some (87, 3, 0, 0, 0, []) ∧ kg_lks kg_cd80 kg_sp80 87 = some (90, 22, 5, 0, 12, []) ∧ kg_lks kg_cd80 kg_sp80 90 = some (91, 2, 1, 0, 0, []) ∧ kg_lks kg_cd80 kg_sp80 91 = some (94, 39, 47, 2, 178, []) ∧ kg_lks kg_cd80 kg_sp80 94 = some (95, 48, 0, 0, 0, []) ∧ kg_lks kg_cd80 kg_sp80 95 = some (96, 3, 0, 0, 0, []) ∧ kg_lks kg_cd80 kg_sp80 96 = some (99, 22, 5, 0, 12, []) ∧ kg_lks kg_cd80 kg_sp80 99 = some (100, 2, 1, 0, 0, []) ∧ kg_lks kg_cd80 kg_sp80 100 = some (103, 39, 36, 2, 101, []) ∧ kg_lks kg_cd80 kg_sp80 103 = some (104, 48, 0, 0, 0, []) ∧ kg_lks kg_cd80 kg_sp80 104 = some (105, 3, 0, 0, 0, []) ∧ kg_lks kg_cd80 kg_sp80 105 = some (108, 22, 5, 0, 12, []) ∧ kg_lks kg_cd80 kg_sp80 108 = some (109, 2, 1, 0, 0, []) ∧ kg_lks kg_cd80 kg_sp80 109 = some (112, 39, 48, 2, 181, []) ∧ kg_lks kg_cd80 kg_sp80 112 = some (113, 48, 0, 0, 0, []) ∧ kg_lks kg_cd80 kg_sp80 113 = some (115, 1, 2, 0, 0, []) ∧ kg_lks kg_cd80 kg_sp80 115 = some (116, 48, 0, 0, 0, []) := by refine ⟨?_, ?_, ?_, ?_, ?_, ?_, ?_, ?_, ?_, ?_, ?_, ?_, ?_, ?_, ?_, ?_, ?_, ?_, ?_, ?_, ?_, ?_, ?_, ?_, ?_, ?_, ?_, ?_, ?_, ?_, ?_, ?_, ?_, ?_, ?_, ?_, ?_, ?_, ?_, ?_, ?_, ?_, ?_, ?_, ?_, ?_⟩ <;> rfl
theorem kg_v80 {G : kg_G} (hL : G.2.2.2.2.2.1 < 2 ^ 31) {d N0 NX : Nat} (hd : 1 ≤ d) {K : kg_Qt} (f : Nat) {pc : Nat} {ls : List (Option Value)} {st : List Value} {w : kg_W} {M : kg_M} (h : kg_go G NX (kg_call G d NX) (kg_ret 1 NX K) kg_cd80 kg_sp80 (kg_P G d 80 3 N0 NX K) f pc ls st w M) : kg_P G d 80 3 N0 NX K pc ls st w M := kg_vgo hL hd kg_ok80 rfl rfl rfl rfl (fun e => by cases e) h
theorem kg_m80 {G : kg_G} {d NX : Nat} {K : kg_Qt} {args : List Value} {w : kg_W} {M : kg_M} (hal : args.length ≤ 3) (hw : w.1 ≤ NX) (h : kg_P G d 80 3 w.1 NX K 0 (kg_pad 3 args) [] w M) : kg_call G (d + 1) NX 80 args w M K := kg_P_call (by omega) rfl hal hw h
def kg_sp81 : List Nat := []
set_option maxRecDepth 100000 in
theorem kg_ls81 : kg_lks kg_cd81 kg_sp81 0 = some (1, 2, 1, 0, 0, []) ∧ kg_lks kg_cd81 kg_sp81 1 = some (4, 40, 61, 1, 55, []) ∧ kg_lks kg_cd81 kg_sp81 4 = some (7, 16, 0, 14, 0, []) ∧ kg_lks kg_cd81 kg_sp81 7 = some (8, 2, 2, 0, 0, []) ∧ kg_lks kg_cd81 kg_sp81 8 = some (11, 40, 61, 1, 55, []) ∧ kg_lks kg_cd81 kg_sp81 11 = some (14, 16, 1, 16, 0, []) ∧ kg_lks kg_cd81 kg_sp81 14 = some (15, 1, 1, 0, 0, []) ∧ kg_lks kg_cd81 kg_sp81 15 = some (16, 48, 0, 0, 0, []) ∧ kg_lks kg_cd81 kg_sp81 16 = some (17, 2, 1, 0, 0, []) ∧ kg_lks kg_cd81 kg_sp81 17 = some (18, 2, 2, 0, 0, []) ∧ kg_lks kg_cd81 kg_sp81 18 = some (21, 17, 1, 24, 0, []) ∧ kg_lks kg_cd81 kg_sp81 21 = some (23, 1, 2, 0, 0, []) ∧ kg_lks kg_cd81 kg_sp81 23 = some (24, 48, 0, 0, 0, []) ∧ kg_lks kg_cd81 kg_sp81 24 = some (25, 2, 3, 0, 0, []) ∧ kg_lks kg_cd81 kg_sp81 25 = some (52, 20, 0, 91, 27, [(0, 52), (1, 81)]) ∧ kg_lks kg_cd81 kg_sp81 52 = some (53, 3, 0, 0, 0, []) ∧ kg_lks kg_cd81 kg_sp81 53 = some (56, 22, 5, 0, 12, []) ∧ kg_lks kg_cd81 kg_sp81 56 = some (59, 22, 4, 5, 184, []) ∧ kg_lks kg_cd81 kg_sp81 59 = some (60, 2, 1, 0, 0, []) ∧ kg_lks kg_cd81 kg_sp81 60 = some (61, 2, 2, 0, 0, []) ∧ kg_lks kg_cd81 kg_sp81 61 = some (64, 40, 68, 2, 187, []) ∧ kg_lks kg_cd81 kg_sp81 64 = some (65, 27, 0, 0, 0, []) ∧ kg_lks kg_cd81 kg_sp81 65 = some (67, 4, 4, 0, 0, []) ∧ kg_lks kg_cd81 kg_sp81 67 = some (69, 2, 4, 0, 0, []) ∧ kg_lks kg_cd81 kg_sp81 69 = some (70, 1, 1, 0, 0, []) ∧ kg_lks kg_cd81 kg_sp81 70 = some (73, 17, 1, 78, 0, []) ∧ kg_lks kg_cd81 kg_sp81 73 = some (75, 1, 5, 0, 0, []) ∧ kg_lks kg_cd81 kg_sp81 75 = some (78, 18, 0, 80, 0, []) ∧ kg_lks kg_cd81 kg_sp81 78 = some (80, 2, 4, 0, 0, []) ∧ kg_lks kg_cd81 kg_sp81 80 = some (81, 48, 0, 0, 0, []) ∧ kg_lks kg_cd81 kg_sp81 81 = some (82, 3, 0, 0, 0, []) ∧ kg_lks kg_cd81 kg_sp81 82 = some (85, 22, 5, 0, 12, []) ∧ kg_lks kg_cd81 kg_sp81 85 = some (86, 2, 1, 0, 0, []) ∧ kg_lks kg_cd81 kg_sp81 86 = some (87, 2, 2, 0, 0, []) ∧ kg_lks kg_cd81 kg_sp81 87 = some (90, 39, 35, 3, 190, []) ∧ kg_lks kg_cd81 kg_sp81 90 = some (91, 48, 0, 0, 0, []) ∧ kg_lks kg_cd81 kg_sp81 91 = some (93, 1, 2, 0, 0, []) ∧ kg_lks kg_cd81 kg_sp81 93 = some (94, 48, 0, 0, 0, []) := by refine ⟨?_, ?_, ?_, ?_, ?_, ?_, ?_, ?_, ?_, ?_, ?_, ?_, ?_, ?_, ?_, ?_, ?_, ?_, ?_, ?_, ?_, ?_, ?_, ?_, ?_, ?_, ?_, ?_, ?_, ?_, ?_, ?_, ?_, ?_, ?_, ?_, ?_, ?_⟩ <;> rfl
theorem kg_v81 {G : kg_G} (hL : G.2.2.2.2.2.1 < 2 ^ 31) {d N0 NX : Nat} (hd : 1 ≤ d) {K : kg_Qt} (f : Nat) {pc : Nat} {ls : List (Option Value)} {st : List Value} {w : kg_W} {M : kg_M} (h : kg_go G NX (kg_call G d NX) (kg_ret 1 NX K) kg_cd81 kg_sp81 (kg_P G d 81 5 N0 NX K) f pc ls st w M) : kg_P G d 81 5 N0 NX K pc ls st w M := kg_vgo hL hd kg_ok81 rfl rfl rfl rfl (fun e => by cases e) h
theorem kg_m81 {G : kg_G} {d NX : Nat} {K : kg_Qt} {args : List Value} {w : kg_W} {M : kg_M} (hal : args.length ≤ 5) (hw : w.1 ≤ NX) (h : kg_P G d 81 5 w.1 NX K 0 (kg_pad 5 args) [] w M) : kg_call G (d + 1) NX 81 args w M K := kg_P_call (by omega) rfl hal hw h
def kg_sp82 : List Nat := []
set_option maxRecDepth 100000 in
theorem kg_ls82 : kg_lks kg_cd82 kg_sp82 0 = some (1, 3, 0, 0, 0, []) ∧ kg_lks kg_cd82 kg_sp82 1 = some (4, 22, 5, 0, 12, []) ∧ kg_lks kg_cd82 kg_sp82 4 = some (7, 39, 49, 1, 193, []) ∧ kg_lks kg_cd82 kg_sp82 7 = some (8, 48, 0, 0, 0, []) := by refine ⟨?_, ?_, ?_, ?_⟩ <;> rfl
theorem kg_v82 {G : kg_G} (hL : G.2.2.2.2.2.1 < 2 ^ 31) {d N0 NX : Nat} (hd : 1 ≤ d) {K : kg_Qt} (f : Nat) {pc : Nat} {ls : List (Option Value)} {st : List Value} {w : kg_W} {M : kg_M} (h : kg_go G NX (kg_call G d NX) (kg_ret 1 NX K) kg_cd82 kg_sp82 (kg_P G d 82 1 N0 NX K) f pc ls st w M) : kg_P G d 82 1 N0 NX K pc ls st w M := kg_vgo hL hd kg_ok82 rfl rfl rfl rfl (fun e => by cases e) h
theorem kg_m82 {G : kg_G} {d NX : Nat} {K : kg_Qt} {args : List Value} {w : kg_W} {M : kg_M} (hal : args.length ≤ 1) (hw : w.1 ≤ NX) (h : kg_P G d 82 1 w.1 NX K 0 (kg_pad 1 args) [] w M) : kg_call G (d + 1) NX 82 args w M K := kg_P_call (by omega) rfl hal hw h
def kg_sp83 : List Nat := []
set_option maxRecDepth 100000 in
theorem kg_ls83 : kg_lks kg_cd83 kg_sp83 0 = some (1, 3, 0, 0, 0, []) ∧ kg_lks kg_cd83 kg_sp83 1 = some (4, 22, 5, 0, 12, []) ∧ kg_lks kg_cd83 kg_sp83 4 = some (7, 39, 50, 1, 196, []) ∧ kg_lks kg_cd83 kg_sp83 7 = some (8, 48, 0, 0, 0, []) := by refine ⟨?_, ?_, ?_, ?_⟩ <;> rfl
theorem kg_v83 {G : kg_G} (hL : G.2.2.2.2.2.1 < 2 ^ 31) {d N0 NX : Nat} (hd : 1 ≤ d) {K : kg_Qt} (f : Nat) {pc : Nat} {ls : List (Option Value)} {st : List Value} {w : kg_W} {M : kg_M} (h : kg_go G NX (kg_call G d NX) (kg_ret 1 NX K) kg_cd83 kg_sp83 (kg_P G d 83 1 N0 NX K) f pc ls st w M) : kg_P G d 83 1 N0 NX K pc ls st w M := kg_vgo hL hd kg_ok83 rfl rfl rfl rfl (fun e => by cases e) h
theorem kg_m83 {G : kg_G} {d NX : Nat} {K : kg_Qt} {args : List Value} {w : kg_W} {M : kg_M} (hal : args.length ≤ 1) (hw : w.1 ≤ NX) (h : kg_P G d 83 1 w.1 NX K 0 (kg_pad 1 args) [] w M) : kg_call G (d + 1) NX 83 args w M K := kg_P_call (by omega) rfl hal hw h
def kg_sp86 : List Nat := []
set_option maxRecDepth 100000 in
theorem kg_ls86 : kg_lks kg_cd86 kg_sp86 0 = some (1, 2, 1, 0, 0, []) ∧ kg_lks kg_cd86 kg_sp86 1 = some (68, 19, 0, 192, 67, [(0, 68), (1, 76), (2, 84), (3, 97), (4, 110), (5, 123), (6, 136), (7, 144), (8, 152), (9, 163), (10, 171), (11, 179), (12, 184)]) ∧ kg_lks kg_cd86 kg_sp86 68 = some (69, 3, 0, 0, 0, []) ∧ kg_lks kg_cd86 kg_sp86 69 = some (72, 22, 5, 0, 12, []) ∧ kg_lks kg_cd86 kg_sp86 72 = some (75, 21, 4, 0, 130, []) ∧ kg_lks kg_cd86 kg_sp86 75 = some (76, 48, 0, 0, 0, []) ∧ kg_lks kg_cd86 kg_sp86 76 = some (77, 3, 0, 0, 0, []) ∧ kg_lks kg_cd86 kg_sp86 77 = some (80, 22, 5, 0, 12, []) ∧ kg_lks kg_cd86 kg_sp86 80 = some (83, 21, 4, 1, 226, []) ∧ kg_lks kg_cd86 kg_sp86 83 = some (84, 48, 0, 0, 0, []) ∧ kg_lks kg_cd86 kg_sp86 84 = some (85, 3, 0, 0, 0, []) ∧ kg_lks kg_cd86 kg_sp86 85 = some (88, 22, 5, 0, 12, []) ∧ kg_lks kg_cd86 kg_sp86 88 = some (91, 22, 4, 7, 199, []) ∧ kg_lks kg_cd86 kg_sp86 91 = some (94, 22, 0, 2, 229, []) ∧ kg_lks kg_cd86 kg_sp86 94 = some (95, 0, 0, 0, 0, []) ∧ kg_lks kg_cd86 kg_sp86 95 = some (96, 27, 0, 0, 0, []) ∧ kg_lks kg_cd86 kg_sp86 96 = some (97, 48, 0, 0, 0, []) ∧ kg_lks kg_cd86 kg_sp86 97 = some (98, 3, 0, 0, 0, []) ∧ kg_lks kg_cd86 kg_sp86 98 = some (101, 22, 5, 0, 12, []) ∧ kg_lks kg_cd86 kg_sp86 101 = some (104, 22, 4, 7, 199, []) ∧ kg_lks kg_cd86 kg_sp86 104 = some (107, 22, 0, 2, 229, []) ∧ kg_lks kg_cd86 kg_sp86 107 = some (108, 0, 1, 0, 0, []) ∧ kg_lks kg_cd86 kg_sp86 108 = some (109, 27, 0, 0, 0, []) ∧ kg_lks kg_cd86 kg_sp86 109 = some (110, 48, 0, 0, 0, []) ∧ kg_lks kg_cd86 kg_sp86 110 = some (111, 3, 0, 0, 0, []) ∧ kg_lks kg_cd86 kg_sp86 111 = some (114, 22, 5, 0, 12, []) ∧ kg_lks kg_cd86 kg_sp86 114 = some (117, 22, 4, 7, 199, []) ∧ kg_lks kg_cd86 kg_sp86 117 = some (120, 22, 0, 2, 229, []) ∧ kg_lks kg_cd86 kg_sp86 120 = some (121, 0, 2, 0, 0, []) ∧ kg_lks kg_cd86 kg_sp86 121 = some (122, 27, 0, 0, 0, []) ∧ kg_lks kg_cd86 kg_sp86 122 = some (123, 48, 0, 0, 0, []) ∧ kg_lks kg_cd86 kg_sp86 123 = some (124, 3, 0, 0, 0, []) ∧ kg_lks kg_cd86 kg_sp86 124 = some (127, 22, 5, 0, 12, []) ∧ kg_lks kg_cd86 kg_sp86 127 = some (130, 22, 4, 7, 199, []) ∧ kg_lks kg_cd86 kg_sp86 130 = some (133, 22, 0, 2, 229, []) ∧ kg_lks kg_cd86 kg_sp86 133 = some (134, 0, 3, 0, 0, []) ∧ kg_lks kg_cd86 kg_sp86 134 = some (135, 27, 0, 0, 0, []) ∧ kg_lks kg_cd86 kg_sp86 135 = some (136, 48, 0, 0, 0, []) ∧ kg_lks kg_cd86 kg_sp86 136 = some (137, 3, 0, 0, 0, []) ∧ kg_lks kg_cd86 kg_sp86 137 = some (140, 22, 5, 0, 12, []) ∧ kg_lks kg_cd86 kg_sp86 140 = some (143, 39, 52, 1, 232, []) ∧ kg_lks kg_cd86 kg_sp86 143 = some (144, 48, 0, 0, 0, []) ∧ kg_lks kg_cd86 kg_sp86 144 = some (145, 3, 0, 0, 0, []) ∧ kg_lks kg_cd86 kg_sp86 145 = some (148, 22, 5, 0, 12, []) ∧ kg_lks kg_cd86 kg_sp86 148 = some (151, 39, 53, 1, 235, []) ∧ kg_lks kg_cd86 kg_sp86 151 = some (152, 48, 0, 0, 0, []) ∧ kg_lks kg_cd86 kg_sp86 152 = some (153, 3, 0, 0, 0, []) ∧ kg_lks kg_cd86 kg_sp86 153 = some (156, 22, 5, 0, 12, []) ∧ kg_lks kg_cd86 kg_sp86 156 = some (159, 22, 4, 6, 107, []) ∧ kg_lks kg_cd86 kg_sp86 159 = some (162, 21, 2, 0, 111, []) ∧ kg_lks kg_cd86 kg_sp86 162 = some (163, 48, 0, 0, 0, []) ∧ kg_lks kg_cd86 kg_sp86 163 = some (164, 3, 0, 0, 0, []) ∧ kg_lks kg_cd86 kg_sp86 164 = some (167, 22, 5, 0, 12, []) ∧ kg_lks kg_cd86 kg_sp86 167 = some (170, 39, 23, 1, 62, []) ∧ kg_lks kg_cd86 kg_sp86 170 = some (171, 48, 0, 0, 0, []) ∧ kg_lks kg_cd86 kg_sp86 171 = some (172, 3, 0, 0, 0, []) ∧ kg_lks kg_cd86 kg_sp86 172 = some (175, 22, 5, 0, 12, []) ∧ kg_lks kg_cd86 kg_sp86 175 = some (178, 39, 54, 1, 238, []) ∧ kg_lks kg_cd86 kg_sp86 178 = some (179, 48, 0, 0, 0, []) ∧ kg_lks kg_cd86 kg_sp86 179 = some (180, 3, 0, 0, 0, []) ∧ kg_lks kg_cd86 kg_sp86 180 = some (183, 21, 5, 2, 20, []) ∧ kg_lks kg_cd86 kg_sp86 183 = some (184, 48, 0, 0, 0, []) ∧ kg_lks kg_cd86 kg_sp86 184 = some (185, 3, 0, 0, 0, []) ∧ kg_lks kg_cd86 kg_sp86 185 = some (188, 22, 5, 5, 34, []) ∧ kg_lks kg_cd86 kg_sp86 188 = some (191, 21, 3, 1, 137, []) ∧ kg_lks kg_cd86 kg_sp86 191 = some (192, 48, 0, 0, 0, []) ∧ kg_lks kg_cd86 kg_sp86 192 = some (194, 1, 2, 0, 0, []) ∧ kg_lks kg_cd86 kg_sp86 194 = some (195, 48, 0, 0, 0, []) := by refine ⟨?_, ?_, ?_, ?_, ?_, ?_, ?_, ?_, ?_, ?_, ?_, ?_, ?_, ?_, ?_, ?_, ?_, ?_, ?_, ?_, ?_, ?_, ?_, ?_, ?_, ?_, ?_, ?_, ?_, ?_, ?_, ?_, ?_, ?_, ?_, ?_, ?_, ?_, ?_, ?_, ?_, ?_, ?_, ?_, ?_, ?_, ?_, ?_, ?_, ?_, ?_, ?_, ?_, ?_, ?_, ?_, ?_, ?_, ?_, ?_, ?_, ?_, ?_, ?_, ?_, ?_, ?_, ?_⟩ <;> rfl
theorem kg_v86 {G : kg_G} (hL : G.2.2.2.2.2.1 < 2 ^ 31) {d N0 NX : Nat} (hd : 1 ≤ d) {K : kg_Qt} (f : Nat) {pc : Nat} {ls : List (Option Value)} {st : List Value} {w : kg_W} {M : kg_M} (h : kg_go G NX (kg_call G d NX) (kg_ret 1 NX K) kg_cd86 kg_sp86 (kg_P G d 86 2 N0 NX K) f pc ls st w M) : kg_P G d 86 2 N0 NX K pc ls st w M := kg_vgo hL hd kg_ok86 rfl rfl rfl rfl (fun e => by cases e) h
theorem kg_m86 {G : kg_G} {d NX : Nat} {K : kg_Qt} {args : List Value} {w : kg_W} {M : kg_M} (hal : args.length ≤ 2) (hw : w.1 ≤ NX) (h : kg_P G d 86 2 w.1 NX K 0 (kg_pad 2 args) [] w M) : kg_call G (d + 1) NX 86 args w M K := kg_P_call (by omega) rfl hal hw h
def kg_sp87 : List Nat := []
set_option maxRecDepth 100000 in
theorem kg_ls87 : kg_lks kg_cd87 kg_sp87 0 = some (1, 2, 1, 0, 0, []) ∧ kg_lks kg_cd87 kg_sp87 1 = some (4, 40, 58, 1, 38, []) ∧ kg_lks kg_cd87 kg_sp87 4 = some (7, 16, 1, 9, 0, []) ∧ kg_lks kg_cd87 kg_sp87 7 = some (8, 1, 1, 0, 0, []) ∧ kg_lks kg_cd87 kg_sp87 8 = some (9, 48, 0, 0, 0, []) ∧ kg_lks kg_cd87 kg_sp87 9 = some (10, 3, 0, 0, 0, []) ∧ kg_lks kg_cd87 kg_sp87 10 = some (13, 22, 5, 0, 12, []) ∧ kg_lks kg_cd87 kg_sp87 13 = some (16, 22, 4, 2, 49, []) ∧ kg_lks kg_cd87 kg_sp87 16 = some (17, 2, 1, 0, 0, []) ∧ kg_lks kg_cd87 kg_sp87 17 = some (18, 27, 0, 0, 0, []) ∧ kg_lks kg_cd87 kg_sp87 18 = some (19, 48, 0, 0, 0, []) := by refine ⟨?_, ?_, ?_, ?_, ?_, ?_, ?_, ?_, ?_, ?_, ?_⟩ <;> rfl
theorem kg_v87 {G : kg_G} (hL : G.2.2.2.2.2.1 < 2 ^ 31) {d N0 NX : Nat} (hd : 1 ≤ d) {K : kg_Qt} (f : Nat) {pc : Nat} {ls : List (Option Value)} {st : List Value} {w : kg_W} {M : kg_M} (h : kg_go G NX (kg_call G d NX) (kg_ret 1 NX K) kg_cd87 kg_sp87 (kg_P G d 87 2 N0 NX K) f pc ls st w M) : kg_P G d 87 2 N0 NX K pc ls st w M := kg_vgo hL hd kg_ok87 rfl rfl rfl rfl (fun e => by cases e) h
theorem kg_m87 {G : kg_G} {d NX : Nat} {K : kg_Qt} {args : List Value} {w : kg_W} {M : kg_M} (hal : args.length ≤ 2) (hw : w.1 ≤ NX) (h : kg_P G d 87 2 w.1 NX K 0 (kg_pad 2 args) [] w M) : kg_call G (d + 1) NX 87 args w M K := kg_P_call (by omega) rfl hal hw h
def kg_sp88 : List Nat := []
set_option maxRecDepth 100000 in
theorem kg_ls88 : kg_lks kg_cd88 kg_sp88 0 = some (1, 2, 1, 0, 0, []) ∧ kg_lks kg_cd88 kg_sp88 1 = some (2, 3, 0, 0, 0, []) ∧ kg_lks kg_cd88 kg_sp88 2 = some (3, 35, 0, 0, 0, []) ∧ kg_lks kg_cd88 kg_sp88 3 = some (6, 17, 3, 12, 0, []) ∧ kg_lks kg_cd88 kg_sp88 6 = some (7, 3, 0, 0, 0, []) ∧ kg_lks kg_cd88 kg_sp88 7 = some (8, 2, 1, 0, 0, []) ∧ kg_lks kg_cd88 kg_sp88 8 = some (9, 27, 0, 0, 0, []) ∧ kg_lks kg_cd88 kg_sp88 9 = some (12, 18, 0, 24, 0, []) ∧ kg_lks kg_cd88 kg_sp88 12 = some (15, 0, 7919, 0, 0, []) ∧ kg_lks kg_cd88 kg_sp88 15 = some (16, 2, 1, 0, 0, []) ∧ kg_lks kg_cd88 kg_sp88 16 = some (17, 0, 3, 0, 0, []) ∧ kg_lks kg_cd88 kg_sp88 17 = some (18, 7, 0, 0, 0, []) ∧ kg_lks kg_cd88 kg_sp88 18 = some (19, 9, 0, 0, 0, []) ∧ kg_lks kg_cd88 kg_sp88 19 = some (20, 2, 1, 0, 0, []) ∧ kg_lks kg_cd88 kg_sp88 20 = some (22, 0, 11, 0, 0, []) ∧ kg_lks kg_cd88 kg_sp88 22 = some (23, 7, 0, 0, 0, []) ∧ kg_lks kg_cd88 kg_sp88 23 = some (24, 9, 0, 0, 0, []) ∧ kg_lks kg_cd88 kg_sp88 24 = some (25, 48, 0, 0, 0, []) := by refine ⟨?_, ?_, ?_, ?_, ?_, ?_, ?_, ?_, ?_, ?_, ?_, ?_, ?_, ?_, ?_, ?_, ?_, ?_⟩ <;> rfl
theorem kg_v88 {G : kg_G} (hL : G.2.2.2.2.2.1 < 2 ^ 31) {d N0 NX : Nat} (hd : 1 ≤ d) {K : kg_Qt} (f : Nat) {pc : Nat} {ls : List (Option Value)} {st : List Value} {w : kg_W} {M : kg_M} (h : kg_go G NX (kg_call G d NX) (kg_ret 1 NX K) kg_cd88 kg_sp88 (kg_P G d 88 2 N0 NX K) f pc ls st w M) : kg_P G d 88 2 N0 NX K pc ls st w M := kg_vgo hL hd kg_ok88 rfl rfl rfl rfl (fun e => by cases e) h
theorem kg_m88 {G : kg_G} {d NX : Nat} {K : kg_Qt} {args : List Value} {w : kg_W} {M : kg_M} (hal : args.length ≤ 2) (hw : w.1 ≤ NX) (h : kg_P G d 88 2 w.1 NX K 0 (kg_pad 2 args) [] w M) : kg_call G (d + 1) NX 88 args w M K := kg_P_call (by omega) rfl hal hw h
def kg_sp89 : List Nat := []
set_option maxRecDepth 100000 in
theorem kg_ls89 : kg_lks kg_cd89 kg_sp89 0 = some (1, 2, 0, 0, 0, []) ∧ kg_lks kg_cd89 kg_sp89 1 = some (3, 0, 2147483647, 0, 7, []) ∧ kg_lks kg_cd89 kg_sp89 3 = some (4, 11, 0, 0, 0, []) ∧ kg_lks kg_cd89 kg_sp89 4 = some (5, 2, 1, 0, 0, []) ∧ kg_lks kg_cd89 kg_sp89 5 = some (6, 10, 0, 0, 0, []) ∧ kg_lks kg_cd89 kg_sp89 6 = some (7, 48, 0, 0, 0, []) := by refine ⟨?_, ?_, ?_, ?_, ?_, ?_⟩ <;> rfl
theorem kg_v89 {G : kg_G} (hL : G.2.2.2.2.2.1 < 2 ^ 31) {d N0 NX : Nat} (hd : 1 ≤ d) {K : kg_Qt} (f : Nat) {pc : Nat} {ls : List (Option Value)} {st : List Value} {w : kg_W} {M : kg_M} (h : kg_go G NX (kg_call G d NX) (kg_ret 1 NX K) kg_cd89 kg_sp89 (kg_P G d 89 2 N0 NX K) f pc ls st w M) : kg_P G d 89 2 N0 NX K pc ls st w M := kg_vgo hL hd kg_ok89 rfl rfl rfl rfl (fun e => by cases e) h
theorem kg_m89 {G : kg_G} {d NX : Nat} {K : kg_Qt} {args : List Value} {w : kg_W} {M : kg_M} (hal : args.length ≤ 2) (hw : w.1 ≤ NX) (h : kg_P G d 89 2 w.1 NX K 0 (kg_pad 2 args) [] w M) : kg_call G (d + 1) NX 89 args w M K := kg_P_call (by omega) rfl hal hw h
def kg_sp90 : List Nat := []
set_option maxRecDepth 100000 in
theorem kg_ls90 : kg_lks kg_cd90 kg_sp90 0 = some (1, 3, 0, 0, 0, []) ∧ kg_lks kg_cd90 kg_sp90 1 = some (2, 2, 1, 0, 0, []) ∧ kg_lks kg_cd90 kg_sp90 2 = some (3, 2, 2, 0, 0, []) ∧ kg_lks kg_cd90 kg_sp90 3 = some (4, 0, 2, 0, 0, []) ∧ kg_lks kg_cd90 kg_sp90 4 = some (7, 39, 78, 4, 8, []) ∧ kg_lks kg_cd90 kg_sp90 7 = some (8, 4, 3, 0, 0, []) ∧ kg_lks kg_cd90 kg_sp90 8 = some (9, 2, 3, 0, 0, []) ∧ kg_lks kg_cd90 kg_sp90 9 = some (11, 1, 5, 0, 0, []) ∧ kg_lks kg_cd90 kg_sp90 11 = some (14, 17, 1, 18, 0, []) ∧ kg_lks kg_cd90 kg_sp90 14 = some (15, 0, 0, 0, 0, []) ∧ kg_lks kg_cd90 kg_sp90 15 = some (18, 18, 0, 19, 0, []) ∧ kg_lks kg_cd90 kg_sp90 18 = some (19, 2, 3, 0, 0, []) ∧ kg_lks kg_cd90 kg_sp90 19 = some (20, 48, 0, 0, 0, []) := by refine ⟨?_, ?_, ?_, ?_, ?_, ?_, ?_, ?_, ?_, ?_, ?_, ?_, ?_⟩ <;> rfl
theorem kg_v90 {G : kg_G} (hL : G.2.2.2.2.2.1 < 2 ^ 31) {d N0 NX : Nat} (hd : 1 ≤ d) {K : kg_Qt} (f : Nat) {pc : Nat} {ls : List (Option Value)} {st : List Value} {w : kg_W} {M : kg_M} (h : kg_go G NX (kg_call G d NX) (kg_ret 1 NX K) kg_cd90 kg_sp90 (kg_P G d 90 4 N0 NX K) f pc ls st w M) : kg_P G d 90 4 N0 NX K pc ls st w M := kg_vgo hL hd kg_ok90 rfl rfl rfl rfl (fun e => by cases e) h
theorem kg_m90 {G : kg_G} {d NX : Nat} {K : kg_Qt} {args : List Value} {w : kg_W} {M : kg_M} (hal : args.length ≤ 4) (hw : w.1 ≤ NX) (h : kg_P G d 90 4 w.1 NX K 0 (kg_pad 4 args) [] w M) : kg_call G (d + 1) NX 90 args w M K := kg_P_call (by omega) rfl hal hw h
def kg_sp91 : List Nat := []
set_option maxRecDepth 100000 in
theorem kg_ls91 : kg_lks kg_cd91 kg_sp91 0 = some (1, 2, 2, 0, 0, []) ∧ kg_lks kg_cd91 kg_sp91 1 = some (2, 0, 4, 0, 0, []) ∧ kg_lks kg_cd91 kg_sp91 2 = some (3, 50, 0, 0, 0, []) ∧ kg_lks kg_cd91 kg_sp91 3 = some (4, 0, 3, 0, 0, []) ∧ kg_lks kg_cd91 kg_sp91 4 = some (5, 11, 0, 0, 0, []) ∧ kg_lks kg_cd91 kg_sp91 5 = some (6, 4, 3, 0, 0, []) ∧ kg_lks kg_cd91 kg_sp91 6 = some (7, 2, 2, 0, 0, []) ∧ kg_lks kg_cd91 kg_sp91 7 = some (9, 0, 6, 0, 0, []) ∧ kg_lks kg_cd91 kg_sp91 9 = some (10, 50, 0, 0, 0, []) ∧ kg_lks kg_cd91 kg_sp91 10 = some (11, 0, 3, 0, 0, []) ∧ kg_lks kg_cd91 kg_sp91 11 = some (12, 11, 0, 0, 0, []) ∧ kg_lks kg_cd91 kg_sp91 12 = some (14, 4, 4, 0, 0, []) ∧ kg_lks kg_cd91 kg_sp91 14 = some (15, 3, 0, 0, 0, []) ∧ kg_lks kg_cd91 kg_sp91 15 = some (16, 0, 1, 0, 0, []) ∧ kg_lks kg_cd91 kg_sp91 16 = some (19, 39, 86, 2, 14, []) ∧ kg_lks kg_cd91 kg_sp91 19 = some (21, 4, 5, 0, 0, []) ∧ kg_lks kg_cd91 kg_sp91 21 = some (22, 2, 2, 0, 0, []) ∧ kg_lks kg_cd91 kg_sp91 22 = some (24, 0, 15, 0, 0, []) ∧ kg_lks kg_cd91 kg_sp91 24 = some (25, 11, 0, 0, 0, []) ∧ kg_lks kg_cd91 kg_sp91 25 = some (84, 19, 0, 269, 59, [(0, 84), (1, 84), (2, 105), (3, 105), (4, 105), (5, 117), (6, 129), (7, 129), (8, 139), (9, 164), (10, 242)]) ∧ kg_lks kg_cd91 kg_sp91 84 = some (85, 3, 0, 0, 0, []) ∧ kg_lks kg_cd91 kg_sp91 85 = some (86, 2, 3, 0, 0, []) ∧ kg_lks kg_cd91 kg_sp91 86 = some (88, 2, 4, 0, 0, []) ∧ kg_lks kg_cd91 kg_sp91 88 = some (89, 2, 2, 0, 0, []) ∧ kg_lks kg_cd91 kg_sp91 89 = some (91, 0, 8, 0, 0, []) ∧ kg_lks kg_cd91 kg_sp91 91 = some (92, 50, 0, 0, 0, []) ∧ kg_lks kg_cd91 kg_sp91 92 = some (94, 0, 100, 0, 0, []) ∧ kg_lks kg_cd91 kg_sp91 94 = some (97, 40, 89, 2, 18, []) ∧ kg_lks kg_cd91 kg_sp91 97 = some (100, 39, 62, 4, 24, []) ∧ kg_lks kg_cd91 kg_sp91 100 = some (102, 4, 6, 0, 0, []) ∧ kg_lks kg_cd91 kg_sp91 102 = some (105, 18, 0, 285, 0, []) ∧ kg_lks kg_cd91 kg_sp91 105 = some (106, 3, 0, 0, 0, []) ∧ kg_lks kg_cd91 kg_sp91 106 = some (107, 2, 3, 0, 0, []) ∧ kg_lks kg_cd91 kg_sp91 107 = some (109, 2, 4, 0, 0, []) ∧ kg_lks kg_cd91 kg_sp91 109 = some (112, 39, 65, 3, 27, []) ∧ kg_lks kg_cd91 kg_sp91 112 = some (114, 4, 6, 0, 0, []) ∧ kg_lks kg_cd91 kg_sp91 114 = some (117, 18, 0, 285, 0, []) ∧ kg_lks kg_cd91 kg_sp91 117 = some (118, 3, 0, 0, 0, []) ∧ kg_lks kg_cd91 kg_sp91 118 = some (119, 2, 3, 0, 0, []) ∧ kg_lks kg_cd91 kg_sp91 119 = some (121, 2, 4, 0, 0, []) ∧ kg_lks kg_cd91 kg_sp91 121 = some (124, 39, 66, 3, 30, []) ∧ kg_lks kg_cd91 kg_sp91 124 = some (126, 4, 6, 0, 0, []) ∧ kg_lks kg_cd91 kg_sp91 126 = some (129, 18, 0, 285, 0, []) ∧ kg_lks kg_cd91 kg_sp91 129 = some (130, 3, 0, 0, 0, []) ∧ kg_lks kg_cd91 kg_sp91 130 = some (131, 2, 3, 0, 0, []) ∧ kg_lks kg_cd91 kg_sp91 131 = some (134, 39, 69, 2, 33, []) ∧ kg_lks kg_cd91 kg_sp91 134 = some (136, 4, 6, 0, 0, []) ∧ kg_lks kg_cd91 kg_sp91 136 = some (139, 18, 0, 285, 0, []) ∧ kg_lks kg_cd91 kg_sp91 139 = some (140, 3, 0, 0, 0, []) ∧ kg_lks kg_cd91 kg_sp91 140 = some (141, 2, 3, 0, 0, []) ∧ kg_lks kg_cd91 kg_sp91 141 = some (142, 2, 2, 0, 0, []) ∧ kg_lks kg_cd91 kg_sp91 142 = some (144, 0, 6, 0, 0, []) ∧ kg_lks kg_cd91 kg_sp91 144 = some (145, 50, 0, 0, 0, []) ∧ kg_lks kg_cd91 kg_sp91 145 = some (146, 0, 1, 0, 0, []) ∧ kg_lks kg_cd91 kg_sp91 146 = some (147, 11, 0, 0, 0, []) ∧ kg_lks kg_cd91 kg_sp91 147 = some (148, 0, 1, 0, 0, []) ∧ kg_lks kg_cd91 kg_sp91 148 = some (151, 17, 1, 155, 0, []) ∧ kg_lks kg_cd91 kg_sp91 151 = some (152, 0, 1, 0, 0, []) ∧ kg_lks kg_cd91 kg_sp91 152 = some (155, 18, 0, 156, 0, []) ∧ kg_lks kg_cd91 kg_sp91 155 = some (156, 0, 0, 0, 0, []) ∧ kg_lks kg_cd91 kg_sp91 156 = some (159, 39, 60, 3, 36, []) ∧ kg_lks kg_cd91 kg_sp91 159 = some (161, 4, 6, 0, 0, []) ∧ kg_lks kg_cd91 kg_sp91 161 = some (164, 18, 0, 285, 0, []) ∧ kg_lks kg_cd91 kg_sp91 164 = some (165, 2, 2, 0, 0, []) ∧ kg_lks kg_cd91 kg_sp91 165 = some (167, 0, 6, 0, 0, []) ∧ kg_lks kg_cd91 kg_sp91 167 = some (168, 50, 0, 0, 0, []) ∧ kg_lks kg_cd91 kg_sp91 168 = some (169, 0, 1, 0, 0, []) ∧ kg_lks kg_cd91 kg_sp91 169 = some (170, 11, 0, 0, 0, []) ∧ kg_lks kg_cd91 kg_sp91 170 = some (173, 16, 1, 193, 0, []) ∧ kg_lks kg_cd91 kg_sp91 173 = some (174, 3, 0, 0, 0, []) ∧ kg_lks kg_cd91 kg_sp91 174 = some (175, 2, 2, 0, 0, []) ∧ kg_lks kg_cd91 kg_sp91 175 = some (176, 0, 4, 0, 0, []) ∧ kg_lks kg_cd91 kg_sp91 176 = some (177, 50, 0, 0, 0, []) ∧ kg_lks kg_cd91 kg_sp91 177 = some (178, 0, 1, 0, 0, []) ∧ kg_lks kg_cd91 kg_sp91 178 = some (179, 11, 0, 0, 0, []) ∧ kg_lks kg_cd91 kg_sp91 179 = some (180, 0, 1, 0, 0, []) ∧ kg_lks kg_cd91 kg_sp91 180 = some (181, 2, 2, 0, 0, []) ∧ kg_lks kg_cd91 kg_sp91 181 = some (183, 0, 7, 0, 0, []) ∧ kg_lks kg_cd91 kg_sp91 183 = some (184, 50, 0, 0, 0, []) ∧ kg_lks kg_cd91 kg_sp91 184 = some (185, 0, 3, 0, 0, []) ∧ kg_lks kg_cd91 kg_sp91 185 = some (186, 11, 0, 0, 0, []) ∧ kg_lks kg_cd91 kg_sp91 186 = some (187, 7, 0, 0, 0, []) ∧ kg_lks kg_cd91 kg_sp91 187 = some (190, 39, 57, 3, 40, []) ∧ kg_lks kg_cd91 kg_sp91 190 = some (193, 18, 0, 237, 0, []) ∧ kg_lks kg_cd91 kg_sp91 193 = some (194, 2, 2, 0, 0, []) ∧ kg_lks kg_cd91 kg_sp91 194 = some (195, 0, 4, 0, 0, []) ∧ kg_lks kg_cd91 kg_sp91 195 = some (196, 50, 0, 0, 0, []) ∧ kg_lks kg_cd91 kg_sp91 196 = some (197, 0, 1, 0, 0, []) ∧ kg_lks kg_cd91 kg_sp91 197 = some (198, 11, 0, 0, 0, []) ∧ kg_lks kg_cd91 kg_sp91 198 = some (201, 16, 1, 220, 0, []) ∧ kg_lks kg_cd91 kg_sp91 201 = some (202, 3, 0, 0, 0, []) ∧ kg_lks kg_cd91 kg_sp91 202 = some (203, 0, 2, 0, 0, []) ∧ kg_lks kg_cd91 kg_sp91 203 = some (204, 0, 1, 0, 0, []) ∧ kg_lks kg_cd91 kg_sp91 204 = some (205, 2, 2, 0, 0, []) ∧ kg_lks kg_cd91 kg_sp91 205 = some (207, 0, 7, 0, 0, []) ∧ kg_lks kg_cd91 kg_sp91 207 = some (208, 50, 0, 0, 0, []) ∧ kg_lks kg_cd91 kg_sp91 208 = some (210, 0, 20, 0, 0, []) ∧ kg_lks kg_cd91 kg_sp91 210 = some (213, 40, 89, 2, 18, []) ∧ kg_lks kg_cd91 kg_sp91 213 = some (214, 7, 0, 0, 0, []) ∧ kg_lks kg_cd91 kg_sp91 214 = some (217, 39, 57, 3, 40, []) ∧ kg_lks kg_cd91 kg_sp91 217 = some (220, 18, 0, 237, 0, []) ∧ kg_lks kg_cd91 kg_sp91 220 = some (221, 3, 0, 0, 0, []) ∧ kg_lks kg_cd91 kg_sp91 221 = some (222, 0, 3, 0, 0, []) ∧ kg_lks kg_cd91 kg_sp91 222 = some (223, 2, 2, 0, 0, []) ∧ kg_lks kg_cd91 kg_sp91 223 = some (224, 0, 5, 0, 0, []) ∧ kg_lks kg_cd91 kg_sp91 224 = some (225, 50, 0, 0, 0, []) ∧ kg_lks kg_cd91 kg_sp91 225 = some (226, 0, 1, 0, 0, []) ∧ kg_lks kg_cd91 kg_sp91 226 = some (227, 11, 0, 0, 0, []) ∧ kg_lks kg_cd91 kg_sp91 227 = some (228, 7, 0, 0, 0, []) ∧ kg_lks kg_cd91 kg_sp91 228 = some (229, 2, 2, 0, 0, []) ∧ kg_lks kg_cd91 kg_sp91 229 = some (231, 0, 7, 0, 0, []) ∧ kg_lks kg_cd91 kg_sp91 231 = some (232, 50, 0, 0, 0, []) ∧ kg_lks kg_cd91 kg_sp91 232 = some (233, 0, 1, 0, 0, []) ∧ kg_lks kg_cd91 kg_sp91 233 = some (234, 11, 0, 0, 0, []) ∧ kg_lks kg_cd91 kg_sp91 234 = some (237, 39, 57, 3, 40, []) ∧ kg_lks kg_cd91 kg_sp91 237 = some (239, 4, 6, 0, 0, []) ∧ kg_lks kg_cd91 kg_sp91 239 = some (242, 18, 0, 285, 0, []) ∧ kg_lks kg_cd91 kg_sp91 242 = some (243, 3, 0, 0, 0, []) ∧ kg_lks kg_cd91 kg_sp91 243 = some (244, 2, 3, 0, 0, []) ∧ kg_lks kg_cd91 kg_sp91 244 = some (246, 2, 4, 0, 0, []) ∧ kg_lks kg_cd91 kg_sp91 246 = some (247, 3, 0, 0, 0, []) ∧ kg_lks kg_cd91 kg_sp91 247 = some (248, 0, 0, 0, 0, []) ∧ kg_lks kg_cd91 kg_sp91 248 = some (251, 39, 86, 2, 14, []) ∧ kg_lks kg_cd91 kg_sp91 251 = some (252, 2, 2, 0, 0, []) ∧ kg_lks kg_cd91 kg_sp91 252 = some (254, 0, 8, 0, 0, []) ∧ kg_lks kg_cd91 kg_sp91 254 = some (255, 50, 0, 0, 0, []) ∧ kg_lks kg_cd91 kg_sp91 255 = some (257, 0, 12, 0, 0, []) ∧ kg_lks kg_cd91 kg_sp91 257 = some (260, 40, 89, 2, 18, []) ∧ kg_lks kg_cd91 kg_sp91 260 = some (261, 7, 0, 0, 0, []) ∧ kg_lks kg_cd91 kg_sp91 261 = some (264, 39, 70, 4, 43, []) ∧ kg_lks kg_cd91 kg_sp91 264 = some (266, 4, 6, 0, 0, []) ∧ kg_lks kg_cd91 kg_sp91 266 = some (269, 18, 0, 285, 0, []) ∧ kg_lks kg_cd91 kg_sp91 269 = some (270, 3, 0, 0, 0, []) ∧ kg_lks kg_cd91 kg_sp91 270 = some (271, 0, 1, 0, 0, []) ∧ kg_lks kg_cd91 kg_sp91 271 = some (272, 2, 2, 0, 0, []) ∧ kg_lks kg_cd91 kg_sp91 272 = some (273, 0, 4, 0, 0, []) ∧ kg_lks kg_cd91 kg_sp91 273 = some (274, 50, 0, 0, 0, []) ∧ kg_lks kg_cd91 kg_sp91 274 = some (276, 0, 6, 0, 0, []) ∧ kg_lks kg_cd91 kg_sp91 276 = some (279, 40, 89, 2, 18, []) ∧ kg_lks kg_cd91 kg_sp91 279 = some (280, 7, 0, 0, 0, []) ∧ kg_lks kg_cd91 kg_sp91 280 = some (283, 39, 72, 2, 46, []) ∧ kg_lks kg_cd91 kg_sp91 283 = some (285, 4, 6, 0, 0, []) ∧ kg_lks kg_cd91 kg_sp91 285 = some (286, 3, 1, 0, 0, []) ∧ kg_lks kg_cd91 kg_sp91 286 = some (288, 2, 4, 0, 0, []) ∧ kg_lks kg_cd91 kg_sp91 288 = some (289, 3, 0, 0, 0, []) ∧ kg_lks kg_cd91 kg_sp91 289 = some (290, 0, 1, 0, 0, []) ∧ kg_lks kg_cd91 kg_sp91 290 = some (293, 39, 86, 2, 14, []) ∧ kg_lks kg_cd91 kg_sp91 293 = some (295, 2, 5, 0, 0, []) ∧ kg_lks kg_cd91 kg_sp91 295 = some (298, 17, 5, 306, 0, []) ∧ kg_lks kg_cd91 kg_sp91 298 = some (299, 3, 0, 0, 0, []) ∧ kg_lks kg_cd91 kg_sp91 299 = some (300, 0, 1, 0, 0, []) ∧ kg_lks kg_cd91 kg_sp91 300 = some (303, 39, 86, 2, 14, []) ∧ kg_lks kg_cd91 kg_sp91 303 = some (306, 18, 0, 310, 0, []) ∧ kg_lks kg_cd91 kg_sp91 306 = some (307, 3, 1, 0, 0, []) ∧ kg_lks kg_cd91 kg_sp91 307 = some (309, 2, 4, 0, 0, []) ∧ kg_lks kg_cd91 kg_sp91 309 = some (310, 27, 0, 0, 0, []) ∧ kg_lks kg_cd91 kg_sp91 310 = some (311, 31, 0, 0, 0, []) ∧ kg_lks kg_cd91 kg_sp91 311 = some (313, 2, 6, 0, 0, []) ∧ kg_lks kg_cd91 kg_sp91 313 = some (314, 48, 0, 0, 0, []) := by refine ⟨?_, ?_, ?_, ?_, ?_, ?_, ?_, ?_, ?_, ?_, ?_, ?_, ?_, ?_, ?_, ?_, ?_, ?_, ?_, ?_, ?_, ?_, ?_, ?_, ?_, ?_, ?_, ?_, ?_, ?_, ?_, ?_, ?_, ?_, ?_, ?_, ?_, ?_, ?_, ?_, ?_, ?_, ?_, ?_, ?_, ?_, ?_, ?_, ?_, ?_, ?_, ?_, ?_, ?_, ?_, ?_, ?_, ?_, ?_, ?_, ?_, ?_, ?_, ?_, ?_, ?_, ?_, ?_, ?_, ?_, ?_, ?_, ?_, ?_, ?_, ?_, ?_, ?_, ?_, ?_, ?_, ?_, ?_, ?_, ?_, ?_, ?_, ?_, ?_, ?_, ?_, ?_, ?_, ?_, ?_, ?_, ?_, ?_, ?_, ?_, ?_, ?_, ?_, ?_, ?_, ?_, ?_, ?_, ?_, ?_, ?_, ?_, ?_, ?_, ?_, ?_, ?_, ?_, ?_, ?_, ?_, ?_, ?_, ?_, ?_, ?_, ?_, ?_, ?_, ?_, ?_, ?_, ?_, ?_, ?_, ?_, ?_, ?_, ?_, ?_, ?_, ?_, ?_, ?_, ?_, ?_, ?_, ?_, ?_, ?_, ?_, ?_, ?_, ?_, ?_, ?_, ?_, ?_, ?_⟩ <;> rfl
theorem kg_v91 {G : kg_G} (hL : G.2.2.2.2.2.1 < 2 ^ 31) {d N0 NX : Nat} (hd : 1 ≤ d) {K : kg_Qt} (f : Nat) {pc : Nat} {ls : List (Option Value)} {st : List Value} {w : kg_W} {M : kg_M} (h : kg_go G NX (kg_call G d NX) (kg_ret 1 NX K) kg_cd91 kg_sp91 (kg_P G d 91 7 N0 NX K) f pc ls st w M) : kg_P G d 91 7 N0 NX K pc ls st w M := kg_vgo hL hd kg_ok91 rfl rfl rfl rfl (fun e => by cases e) h
theorem kg_m91 {G : kg_G} {d NX : Nat} {K : kg_Qt} {args : List Value} {w : kg_W} {M : kg_M} (hal : args.length ≤ 7) (hw : w.1 ≤ NX) (h : kg_P G d 91 7 w.1 NX K 0 (kg_pad 7 args) [] w M) : kg_call G (d + 1) NX 91 args w M K := kg_P_call (by omega) rfl hal hw h
def kg_sp92 : List Nat := [4, 18]
set_option maxRecDepth 100000 in
theorem kg_ls92 : kg_lks kg_cd92 kg_sp92 0 = some (1, 0, 0, 0, 0, []) ∧ kg_lks kg_cd92 kg_sp92 1 = some (2, 4, 2, 0, 0, []) ∧ kg_lks kg_cd92 kg_sp92 2 = some (3, 0, 0, 0, 0, []) ∧ kg_lks kg_cd92 kg_sp92 3 = some (4, 4, 3, 0, 0, []) ∧ kg_lks kg_cd92 kg_sp92 4 = none ∧ kg_lks kg_cd92 kg_sp92 5 = some (6, 0, 4, 0, 0, []) ∧ kg_lks kg_cd92 kg_sp92 6 = some (9, 17, 3, 277, 0, []) ∧ kg_lks kg_cd92 kg_sp92 9 = some (10, 0, 0, 0, 0, []) ∧ kg_lks kg_cd92 kg_sp92 10 = some (12, 4, 4, 0, 0, []) ∧ kg_lks kg_cd92 kg_sp92 12 = some (13, 0, 0, 0, 0, []) ∧ kg_lks kg_cd92 kg_sp92 13 = some (15, 4, 5, 0, 0, []) ∧ kg_lks kg_cd92 kg_sp92 15 = some (16, 0, 0, 0, 0, []) ∧ kg_lks kg_cd92 kg_sp92 16 = some (18, 4, 6, 0, 0, []) ∧ kg_lks kg_cd92 kg_sp92 18 = none ∧ kg_lks kg_cd92 kg_sp92 20 = some (21, 0, 4, 0, 0, []) ∧ kg_lks kg_cd92 kg_sp92 21 = some (24, 17, 3, 217, 0, []) ∧ kg_lks kg_cd92 kg_sp92 24 = some (25, 3, 0, 0, 0, []) ∧ kg_lks kg_cd92 kg_sp92 25 = some (26, 2, 3, 0, 0, []) ∧ kg_lks kg_cd92 kg_sp92 26 = some (28, 2, 6, 0, 0, []) ∧ kg_lks kg_cd92 kg_sp92 28 = some (29, 0, 0, 0, 0, []) ∧ kg_lks kg_cd92 kg_sp92 29 = some (32, 39, 78, 4, 8, []) ∧ kg_lks kg_cd92 kg_sp92 32 = some (34, 4, 7, 0, 0, []) ∧ kg_lks kg_cd92 kg_sp92 34 = some (36, 2, 7, 0, 0, []) ∧ kg_lks kg_cd92 kg_sp92 36 = some (37, 0, 1, 0, 0, []) ∧ kg_lks kg_cd92 kg_sp92 37 = some (40, 17, 1, 55, 0, []) ∧ kg_lks kg_cd92 kg_sp92 40 = some (41, 3, 0, 0, 0, []) ∧ kg_lks kg_cd92 kg_sp92 41 = some (43, 2, 6, 0, 0, []) ∧ kg_lks kg_cd92 kg_sp92 43 = some (44, 0, 0, 0, 0, []) ∧ kg_lks kg_cd92 kg_sp92 44 = some (47, 39, 79, 3, 49, []) ∧ kg_lks kg_cd92 kg_sp92 47 = some (48, 0, 2, 0, 0, []) ∧ kg_lks kg_cd92 kg_sp92 48 = some (51, 17, 1, 55, 0, []) ∧ kg_lks kg_cd92 kg_sp92 51 = some (52, 0, 1, 0, 0, []) ∧ kg_lks kg_cd92 kg_sp92 52 = some (55, 18, 0, 56, 0, []) ∧ kg_lks kg_cd92 kg_sp92 55 = some (56, 0, 0, 0, 0, []) ∧ kg_lks kg_cd92 kg_sp92 56 = some (58, 4, 8, 0, 0, []) ∧ kg_lks kg_cd92 kg_sp92 58 = some (60, 2, 4, 0, 0, []) ∧ kg_lks kg_cd92 kg_sp92 60 = some (62, 2, 7, 0, 0, []) ∧ kg_lks kg_cd92 kg_sp92 62 = some (63, 0, 1, 0, 0, []) ∧ kg_lks kg_cd92 kg_sp92 63 = some (66, 17, 1, 70, 0, []) ∧ kg_lks kg_cd92 kg_sp92 66 = some (67, 0, 1, 0, 0, []) ∧ kg_lks kg_cd92 kg_sp92 67 = some (70, 18, 0, 71, 0, []) ∧ kg_lks kg_cd92 kg_sp92 70 = some (71, 0, 0, 0, 0, []) ∧ kg_lks kg_cd92 kg_sp92 71 = some (72, 7, 0, 0, 0, []) ∧ kg_lks kg_cd92 kg_sp92 72 = some (74, 4, 4, 0, 0, []) ∧ kg_lks kg_cd92 kg_sp92 74 = some (75, 2, 2, 0, 0, []) ∧ kg_lks kg_cd92 kg_sp92 75 = some (77, 2, 7, 0, 0, []) ∧ kg_lks kg_cd92 kg_sp92 77 = some (78, 0, 2, 0, 0, []) ∧ kg_lks kg_cd92 kg_sp92 78 = some (81, 17, 1, 85, 0, []) ∧ kg_lks kg_cd92 kg_sp92 81 = some (82, 0, 1, 0, 0, []) ∧ kg_lks kg_cd92 kg_sp92 82 = some (85, 18, 0, 86, 0, []) ∧ kg_lks kg_cd92 kg_sp92 85 = some (86, 0, 0, 0, 0, []) ∧ kg_lks kg_cd92 kg_sp92 86 = some (87, 7, 0, 0, 0, []) ∧ kg_lks kg_cd92 kg_sp92 87 = some (88, 4, 2, 0, 0, []) ∧ kg_lks kg_cd92 kg_sp92 88 = some (90, 2, 5, 0, 0, []) ∧ kg_lks kg_cd92 kg_sp92 90 = some (92, 2, 8, 0, 0, []) ∧ kg_lks kg_cd92 kg_sp92 92 = some (95, 16, 0, 99, 0, []) ∧ kg_lks kg_cd92 kg_sp92 95 = some (96, 0, 1, 0, 0, []) ∧ kg_lks kg_cd92 kg_sp92 96 = some (99, 18, 0, 100, 0, []) ∧ kg_lks kg_cd92 kg_sp92 99 = some (100, 0, 0, 0, 0, []) ∧ kg_lks kg_cd92 kg_sp92 100 = some (101, 7, 0, 0, 0, []) ∧ kg_lks kg_cd92 kg_sp92 101 = some (103, 4, 5, 0, 0, []) ∧ kg_lks kg_cd92 kg_sp92 103 = some (104, 3, 0, 0, 0, []) ∧ kg_lks kg_cd92 kg_sp92 104 = some (105, 2, 3, 0, 0, []) ∧ kg_lks kg_cd92 kg_sp92 105 = some (107, 2, 6, 0, 0, []) ∧ kg_lks kg_cd92 kg_sp92 107 = some (110, 40, 90, 3, 52, []) ∧ kg_lks kg_cd92 kg_sp92 110 = some (111, 3, 1, 0, 0, []) ∧ kg_lks kg_cd92 kg_sp92 111 = some (113, 2, 6, 0, 0, []) ∧ kg_lks kg_cd92 kg_sp92 113 = some (114, 27, 0, 0, 0, []) ∧ kg_lks kg_cd92 kg_sp92 114 = some (117, 17, 4, 165, 0, []) ∧ kg_lks kg_cd92 kg_sp92 117 = some (118, 3, 0, 0, 0, []) ∧ kg_lks kg_cd92 kg_sp92 118 = some (119, 2, 3, 0, 0, []) ∧ kg_lks kg_cd92 kg_sp92 119 = some (121, 2, 6, 0, 0, []) ∧ kg_lks kg_cd92 kg_sp92 121 = some (124, 40, 90, 3, 52, []) ∧ kg_lks kg_cd92 kg_sp92 124 = some (125, 3, 1, 0, 0, []) ∧ kg_lks kg_cd92 kg_sp92 125 = some (127, 2, 6, 0, 0, []) ∧ kg_lks kg_cd92 kg_sp92 127 = some (128, 27, 0, 0, 0, []) ∧ kg_lks kg_cd92 kg_sp92 128 = some (131, 17, 1, 143, 0, []) ∧ kg_lks kg_cd92 kg_sp92 131 = some (133, 2, 7, 0, 0, []) ∧ kg_lks kg_cd92 kg_sp92 133 = some (134, 3, 0, 0, 0, []) ∧ kg_lks kg_cd92 kg_sp92 134 = some (136, 2, 6, 0, 0, []) ∧ kg_lks kg_cd92 kg_sp92 136 = some (137, 0, 0, 0, 0, []) ∧ kg_lks kg_cd92 kg_sp92 137 = some (140, 39, 79, 3, 49, []) ∧ kg_lks kg_cd92 kg_sp92 140 = some (143, 17, 1, 165, 0, []) ∧ kg_lks kg_cd92 kg_sp92 143 = some (144, 3, 0, 0, 0, []) ∧ kg_lks kg_cd92 kg_sp92 144 = some (145, 2, 3, 0, 0, []) ∧ kg_lks kg_cd92 kg_sp92 145 = some (147, 2, 6, 0, 0, []) ∧ kg_lks kg_cd92 kg_sp92 147 = some (148, 0, 5, 0, 0, []) ∧ kg_lks kg_cd92 kg_sp92 148 = some (151, 39, 78, 4, 8, []) ∧ kg_lks kg_cd92 kg_sp92 151 = some (152, 0, 1, 0, 0, []) ∧ kg_lks kg_cd92 kg_sp92 152 = some (155, 17, 1, 159, 0, []) ∧ kg_lks kg_cd92 kg_sp92 155 = some (156, 0, 1, 0, 0, []) ∧ kg_lks kg_cd92 kg_sp92 156 = some (159, 18, 0, 160, 0, []) ∧ kg_lks kg_cd92 kg_sp92 159 = some (160, 0, 0, 0, 0, []) ∧ kg_lks kg_cd92 kg_sp92 160 = some (162, 2, 8, 0, 0, []) ∧ kg_lks kg_cd92 kg_sp92 162 = some (165, 17, 0, 167, 0, []) ∧ kg_lks kg_cd92 kg_sp92 165 = some (166, 0, 0, 0, 0, []) ∧ kg_lks kg_cd92 kg_sp92 166 = some (167, 48, 0, 0, 0, []) ∧ kg_lks kg_cd92 kg_sp92 167 = some (169, 2, 7, 0, 0, []) ∧ kg_lks kg_cd92 kg_sp92 169 = some (172, 16, 5, 211, 0, []) ∧ kg_lks kg_cd92 kg_sp92 172 = some (173, 3, 0, 0, 0, []) ∧ kg_lks kg_cd92 kg_sp92 173 = some (174, 2, 3, 0, 0, []) ∧ kg_lks kg_cd92 kg_sp92 174 = some (176, 2, 6, 0, 0, []) ∧ kg_lks kg_cd92 kg_sp92 176 = some (178, 0, 6, 0, 0, []) ∧ kg_lks kg_cd92 kg_sp92 178 = some (181, 39, 78, 4, 8, []) ∧ kg_lks kg_cd92 kg_sp92 181 = some (182, 3, 0, 0, 0, []) ∧ kg_lks kg_cd92 kg_sp92 182 = some (183, 2, 3, 0, 0, []) ∧ kg_lks kg_cd92 kg_sp92 183 = some (185, 2, 6, 0, 0, []) ∧ kg_lks kg_cd92 kg_sp92 185 = some (186, 0, 3, 0, 0, []) ∧ kg_lks kg_cd92 kg_sp92 186 = some (189, 39, 78, 4, 8, []) ∧ kg_lks kg_cd92 kg_sp92 189 = some (192, 17, 2, 209, 0, []) ∧ kg_lks kg_cd92 kg_sp92 192 = some (193, 3, 0, 0, 0, []) ∧ kg_lks kg_cd92 kg_sp92 193 = some (194, 2, 3, 0, 0, []) ∧ kg_lks kg_cd92 kg_sp92 194 = some (196, 2, 6, 0, 0, []) ∧ kg_lks kg_cd92 kg_sp92 196 = some (198, 0, 6, 0, 0, []) ∧ kg_lks kg_cd92 kg_sp92 198 = some (201, 39, 78, 4, 8, []) ∧ kg_lks kg_cd92 kg_sp92 201 = some (202, 3, 0, 0, 0, []) ∧ kg_lks kg_cd92 kg_sp92 202 = some (203, 0, 0, 0, 0, []) ∧ kg_lks kg_cd92 kg_sp92 203 = some (206, 39, 86, 2, 14, []) ∧ kg_lks kg_cd92 kg_sp92 206 = some (209, 17, 5, 211, 0, []) ∧ kg_lks kg_cd92 kg_sp92 209 = some (210, 0, 0, 0, 0, []) ∧ kg_lks kg_cd92 kg_sp92 210 = some (211, 48, 0, 0, 0, []) ∧ kg_lks kg_cd92 kg_sp92 211 = some (214, 6, 6, 1, 0, []) ∧ kg_lks kg_cd92 kg_sp92 214 = some (217, 18, 0, 18, 0, []) ∧ kg_lks kg_cd92 kg_sp92 217 = some (218, 3, 0, 0, 0, []) ∧ kg_lks kg_cd92 kg_sp92 218 = some (219, 2, 3, 0, 0, []) ∧ kg_lks kg_cd92 kg_sp92 219 = some (220, 0, 1, 0, 0, []) ∧ kg_lks kg_cd92 kg_sp92 220 = some (223, 39, 80, 3, 56, []) ∧ kg_lks kg_cd92 kg_sp92 223 = some (225, 2, 4, 0, 0, []) ∧ kg_lks kg_cd92 kg_sp92 225 = some (228, 17, 1, 269, 0, []) ∧ kg_lks kg_cd92 kg_sp92 228 = some (229, 3, 0, 0, 0, []) ∧ kg_lks kg_cd92 kg_sp92 229 = some (230, 2, 3, 0, 0, []) ∧ kg_lks kg_cd92 kg_sp92 230 = some (231, 0, 5, 0, 0, []) ∧ kg_lks kg_cd92 kg_sp92 231 = some (234, 39, 80, 3, 56, []) ∧ kg_lks kg_cd92 kg_sp92 234 = some (236, 2, 5, 0, 0, []) ∧ kg_lks kg_cd92 kg_sp92 236 = some (239, 17, 1, 269, 0, []) ∧ kg_lks kg_cd92 kg_sp92 239 = some (240, 3, 0, 0, 0, []) ∧ kg_lks kg_cd92 kg_sp92 240 = some (241, 2, 3, 0, 0, []) ∧ kg_lks kg_cd92 kg_sp92 241 = some (242, 0, 4, 0, 0, []) ∧ kg_lks kg_cd92 kg_sp92 242 = some (245, 39, 80, 3, 56, []) ∧ kg_lks kg_cd92 kg_sp92 245 = some (246, 3, 0, 0, 0, []) ∧ kg_lks kg_cd92 kg_sp92 246 = some (247, 2, 3, 0, 0, []) ∧ kg_lks kg_cd92 kg_sp92 247 = some (248, 0, 3, 0, 0, []) ∧ kg_lks kg_cd92 kg_sp92 248 = some (251, 39, 80, 3, 56, []) ∧ kg_lks kg_cd92 kg_sp92 251 = some (254, 17, 4, 269, 0, []) ∧ kg_lks kg_cd92 kg_sp92 254 = some (255, 3, 0, 0, 0, []) ∧ kg_lks kg_cd92 kg_sp92 255 = some (256, 2, 3, 0, 0, []) ∧ kg_lks kg_cd92 kg_sp92 256 = some (257, 0, 3, 0, 0, []) ∧ kg_lks kg_cd92 kg_sp92 257 = some (260, 39, 80, 3, 56, []) ∧ kg_lks kg_cd92 kg_sp92 260 = some (261, 3, 0, 0, 0, []) ∧ kg_lks kg_cd92 kg_sp92 261 = some (262, 2, 3, 0, 0, []) ∧ kg_lks kg_cd92 kg_sp92 262 = some (263, 0, 2, 0, 0, []) ∧ kg_lks kg_cd92 kg_sp92 263 = some (266, 39, 80, 3, 56, []) ∧ kg_lks kg_cd92 kg_sp92 266 = some (269, 17, 5, 271, 0, []) ∧ kg_lks kg_cd92 kg_sp92 269 = some (270, 0, 0, 0, 0, []) ∧ kg_lks kg_cd92 kg_sp92 270 = some (271, 48, 0, 0, 0, []) ∧ kg_lks kg_cd92 kg_sp92 271 = some (274, 6, 3, 1, 0, []) ∧ kg_lks kg_cd92 kg_sp92 274 = some (277, 18, 0, 4, 0, []) ∧ kg_lks kg_cd92 kg_sp92 277 = some (278, 3, 0, 0, 0, []) ∧ kg_lks kg_cd92 kg_sp92 278 = some (280, 0, 6, 0, 0, []) ∧ kg_lks kg_cd92 kg_sp92 280 = some (283, 39, 86, 2, 14, []) ∧ kg_lks kg_cd92 kg_sp92 283 = some (284, 2, 2, 0, 0, []) ∧ kg_lks kg_cd92 kg_sp92 284 = some (287, 17, 1, 291, 0, []) ∧ kg_lks kg_cd92 kg_sp92 287 = some (288, 0, 1, 0, 0, []) ∧ kg_lks kg_cd92 kg_sp92 288 = some (291, 18, 0, 292, 0, []) ∧ kg_lks kg_cd92 kg_sp92 291 = some (292, 0, 0, 0, 0, []) ∧ kg_lks kg_cd92 kg_sp92 292 = some (293, 48, 0, 0, 0, []) := by refine ⟨?_, ?_, ?_, ?_, ?_, ?_, ?_, ?_, ?_, ?_, ?_, ?_, ?_, ?_, ?_, ?_, ?_, ?_, ?_, ?_, ?_, ?_, ?_, ?_, ?_, ?_, ?_, ?_, ?_, ?_, ?_, ?_, ?_, ?_, ?_, ?_, ?_, ?_, ?_, ?_, ?_, ?_, ?_, ?_, ?_, ?_, ?_, ?_, ?_, ?_, ?_, ?_, ?_, ?_, ?_, ?_, ?_, ?_, ?_, ?_, ?_, ?_, ?_, ?_, ?_, ?_, ?_, ?_, ?_, ?_, ?_, ?_, ?_, ?_, ?_, ?_, ?_, ?_, ?_, ?_, ?_, ?_, ?_, ?_, ?_, ?_, ?_, ?_, ?_, ?_, ?_, ?_, ?_, ?_, ?_, ?_, ?_, ?_, ?_, ?_, ?_, ?_, ?_, ?_, ?_, ?_, ?_, ?_, ?_, ?_, ?_, ?_, ?_, ?_, ?_, ?_, ?_, ?_, ?_, ?_, ?_, ?_, ?_, ?_, ?_, ?_, ?_, ?_, ?_, ?_, ?_, ?_, ?_, ?_, ?_, ?_, ?_, ?_, ?_, ?_, ?_, ?_, ?_, ?_, ?_, ?_, ?_, ?_, ?_, ?_, ?_, ?_, ?_, ?_, ?_, ?_, ?_, ?_, ?_, ?_, ?_, ?_, ?_, ?_, ?_, ?_⟩ <;> rfl
theorem kg_v92 {G : kg_G} (hL : G.2.2.2.2.2.1 < 2 ^ 31) {d N0 NX : Nat} (hd : 1 ≤ d) {K : kg_Qt} (f : Nat) {pc : Nat} {ls : List (Option Value)} {st : List Value} {w : kg_W} {M : kg_M} (h : kg_go G NX (kg_call G d NX) (kg_ret 2 NX K) kg_cd92 kg_sp92 (kg_P G d 92 9 N0 NX K) f pc ls st w M) : kg_P G d 92 9 N0 NX K pc ls st w M := kg_vgo hL hd kg_ok92 rfl rfl rfl rfl (fun e => by cases e) h
theorem kg_m92 {G : kg_G} {d NX : Nat} {K : kg_Qt} {args : List Value} {w : kg_W} {M : kg_M} (hal : args.length ≤ 9) (hw : w.1 ≤ NX) (h : kg_P G d 92 9 w.1 NX K 0 (kg_pad 9 args) [] w M) : kg_call G (d + 1) NX 92 args w M K := kg_P_call (by omega) rfl hal hw h
def kg_sp93 : List Nat := [17, 176]
set_option maxRecDepth 100000 in
theorem kg_ls93 : kg_lks kg_cd93 kg_sp93 0 = some (1, 3, 0, 0, 0, []) ∧ kg_lks kg_cd93 kg_sp93 1 = some (2, 2, 1, 0, 0, []) ∧ kg_lks kg_cd93 kg_sp93 2 = some (3, 2, 2, 0, 0, []) ∧ kg_lks kg_cd93 kg_sp93 3 = some (4, 0, 1, 0, 0, []) ∧ kg_lks kg_cd93 kg_sp93 4 = some (7, 39, 81, 4, 59, []) ∧ kg_lks kg_cd93 kg_sp93 7 = some (8, 4, 3, 0, 0, []) ∧ kg_lks kg_cd93 kg_sp93 8 = some (9, 0, 0, 0, 0, []) ∧ kg_lks kg_cd93 kg_sp93 9 = some (11, 4, 4, 0, 0, []) ∧ kg_lks kg_cd93 kg_sp93 11 = some (12, 0, 0, 0, 0, []) ∧ kg_lks kg_cd93 kg_sp93 12 = some (14, 4, 5, 0, 0, []) ∧ kg_lks kg_cd93 kg_sp93 14 = some (15, 0, 0, 0, 0, []) ∧ kg_lks kg_cd93 kg_sp93 15 = some (17, 4, 6, 0, 0, []) ∧ kg_lks kg_cd93 kg_sp93 17 = none ∧ kg_lks kg_cd93 kg_sp93 19 = some (21, 0, 8, 0, 0, []) ∧ kg_lks kg_cd93 kg_sp93 21 = some (24, 17, 3, 84, 0, []) ∧ kg_lks kg_cd93 kg_sp93 24 = some (25, 3, 0, 0, 0, []) ∧ kg_lks kg_cd93 kg_sp93 25 = some (26, 2, 1, 0, 0, []) ∧ kg_lks kg_cd93 kg_sp93 26 = some (28, 2, 6, 0, 0, []) ∧ kg_lks kg_cd93 kg_sp93 28 = some (31, 40, 90, 3, 52, []) ∧ kg_lks kg_cd93 kg_sp93 31 = some (33, 4, 7, 0, 0, []) ∧ kg_lks kg_cd93 kg_sp93 33 = some (34, 3, 0, 0, 0, []) ∧ kg_lks kg_cd93 kg_sp93 34 = some (35, 2, 2, 0, 0, []) ∧ kg_lks kg_cd93 kg_sp93 35 = some (37, 2, 6, 0, 0, []) ∧ kg_lks kg_cd93 kg_sp93 37 = some (40, 40, 90, 3, 52, []) ∧ kg_lks kg_cd93 kg_sp93 40 = some (42, 4, 8, 0, 0, []) ∧ kg_lks kg_cd93 kg_sp93 42 = some (44, 2, 4, 0, 0, []) ∧ kg_lks kg_cd93 kg_sp93 44 = some (46, 2, 7, 0, 0, []) ∧ kg_lks kg_cd93 kg_sp93 46 = some (48, 2, 8, 0, 0, []) ∧ kg_lks kg_cd93 kg_sp93 48 = some (51, 17, 5, 56, 0, []) ∧ kg_lks kg_cd93 kg_sp93 51 = some (53, 2, 7, 0, 0, []) ∧ kg_lks kg_cd93 kg_sp93 53 = some (56, 18, 0, 58, 0, []) ∧ kg_lks kg_cd93 kg_sp93 56 = some (58, 2, 8, 0, 0, []) ∧ kg_lks kg_cd93 kg_sp93 58 = some (59, 7, 0, 0, 0, []) ∧ kg_lks kg_cd93 kg_sp93 59 = some (61, 4, 4, 0, 0, []) ∧ kg_lks kg_cd93 kg_sp93 61 = some (63, 2, 5, 0, 0, []) ∧ kg_lks kg_cd93 kg_sp93 63 = some (65, 2, 7, 0, 0, []) ∧ kg_lks kg_cd93 kg_sp93 65 = some (67, 2, 8, 0, 0, []) ∧ kg_lks kg_cd93 kg_sp93 67 = some (70, 17, 1, 74, 0, []) ∧ kg_lks kg_cd93 kg_sp93 70 = some (71, 0, 0, 0, 0, []) ∧ kg_lks kg_cd93 kg_sp93 71 = some (74, 18, 0, 75, 0, []) ∧ kg_lks kg_cd93 kg_sp93 74 = some (75, 0, 1, 0, 0, []) ∧ kg_lks kg_cd93 kg_sp93 75 = some (76, 7, 0, 0, 0, []) ∧ kg_lks kg_cd93 kg_sp93 76 = some (78, 4, 5, 0, 0, []) ∧ kg_lks kg_cd93 kg_sp93 78 = some (81, 6, 6, 1, 0, []) ∧ kg_lks kg_cd93 kg_sp93 81 = some (84, 18, 0, 17, 0, []) ∧ kg_lks kg_cd93 kg_sp93 84 = some (85, 3, 0, 0, 0, []) ∧ kg_lks kg_cd93 kg_sp93 85 = some (86, 2, 1, 0, 0, []) ∧ kg_lks kg_cd93 kg_sp93 86 = some (87, 0, 0, 0, 0, []) ∧ kg_lks kg_cd93 kg_sp93 87 = some (90, 39, 80, 3, 56, []) ∧ kg_lks kg_cd93 kg_sp93 90 = some (93, 16, 0, 102, 0, []) ∧ kg_lks kg_cd93 kg_sp93 93 = some (94, 3, 0, 0, 0, []) ∧ kg_lks kg_cd93 kg_sp93 94 = some (95, 2, 2, 0, 0, []) ∧ kg_lks kg_cd93 kg_sp93 95 = some (96, 0, 0, 0, 0, []) ∧ kg_lks kg_cd93 kg_sp93 96 = some (99, 39, 80, 3, 56, []) ∧ kg_lks kg_cd93 kg_sp93 99 = some (102, 16, 1, 125, 0, []) ∧ kg_lks kg_cd93 kg_sp93 102 = some (103, 3, 0, 0, 0, []) ∧ kg_lks kg_cd93 kg_sp93 103 = some (104, 2, 1, 0, 0, []) ∧ kg_lks kg_cd93 kg_sp93 104 = some (105, 2, 2, 0, 0, []) ∧ kg_lks kg_cd93 kg_sp93 105 = some (108, 39, 67, 3, 62, []) ∧ kg_lks kg_cd93 kg_sp93 108 = some (110, 1, 4, 0, 0, []) ∧ kg_lks kg_cd93 kg_sp93 110 = some (113, 17, 1, 123, 0, []) ∧ kg_lks kg_cd93 kg_sp93 113 = some (115, 2, 5, 0, 0, []) ∧ kg_lks kg_cd93 kg_sp93 115 = some (116, 2, 3, 0, 0, []) ∧ kg_lks kg_cd93 kg_sp93 116 = some (119, 17, 1, 123, 0, []) ∧ kg_lks kg_cd93 kg_sp93 119 = some (120, 0, 1, 0, 0, []) ∧ kg_lks kg_cd93 kg_sp93 120 = some (123, 18, 0, 124, 0, []) ∧ kg_lks kg_cd93 kg_sp93 123 = some (124, 0, 0, 0, 0, []) ∧ kg_lks kg_cd93 kg_sp93 124 = some (125, 48, 0, 0, 0, []) ∧ kg_lks kg_cd93 kg_sp93 125 = some (126, 3, 0, 0, 0, []) ∧ kg_lks kg_cd93 kg_sp93 126 = some (127, 2, 1, 0, 0, []) ∧ kg_lks kg_cd93 kg_sp93 127 = some (128, 2, 2, 0, 0, []) ∧ kg_lks kg_cd93 kg_sp93 128 = some (131, 39, 67, 3, 62, []) ∧ kg_lks kg_cd93 kg_sp93 131 = some (132, 2, 3, 0, 0, []) ∧ kg_lks kg_cd93 kg_sp93 132 = some (135, 17, 1, 170, 0, []) ∧ kg_lks kg_cd93 kg_sp93 135 = some (137, 2, 5, 0, 0, []) ∧ kg_lks kg_cd93 kg_sp93 137 = some (138, 2, 3, 0, 0, []) ∧ kg_lks kg_cd93 kg_sp93 138 = some (141, 17, 1, 170, 0, []) ∧ kg_lks kg_cd93 kg_sp93 141 = some (142, 3, 0, 0, 0, []) ∧ kg_lks kg_cd93 kg_sp93 142 = some (143, 2, 1, 0, 0, []) ∧ kg_lks kg_cd93 kg_sp93 143 = some (144, 2, 2, 0, 0, []) ∧ kg_lks kg_cd93 kg_sp93 144 = some (145, 0, 1, 0, 0, []) ∧ kg_lks kg_cd93 kg_sp93 145 = some (148, 39, 81, 4, 59, []) ∧ kg_lks kg_cd93 kg_sp93 148 = some (151, 16, 1, 170, 0, []) ∧ kg_lks kg_cd93 kg_sp93 151 = some (152, 3, 0, 0, 0, []) ∧ kg_lks kg_cd93 kg_sp93 152 = some (153, 2, 2, 0, 0, []) ∧ kg_lks kg_cd93 kg_sp93 153 = some (154, 2, 1, 0, 0, []) ∧ kg_lks kg_cd93 kg_sp93 154 = some (155, 0, 0, 0, 0, []) ∧ kg_lks kg_cd93 kg_sp93 155 = some (158, 39, 81, 4, 59, []) ∧ kg_lks kg_cd93 kg_sp93 158 = some (159, 3, 0, 0, 0, []) ∧ kg_lks kg_cd93 kg_sp93 159 = some (160, 0, 0, 0, 0, []) ∧ kg_lks kg_cd93 kg_sp93 160 = some (163, 39, 86, 2, 14, []) ∧ kg_lks kg_cd93 kg_sp93 163 = some (166, 17, 1, 170, 0, []) ∧ kg_lks kg_cd93 kg_sp93 166 = some (167, 0, 1, 0, 0, []) ∧ kg_lks kg_cd93 kg_sp93 167 = some (170, 18, 0, 171, 0, []) ∧ kg_lks kg_cd93 kg_sp93 170 = some (171, 0, 0, 0, 0, []) ∧ kg_lks kg_cd93 kg_sp93 171 = some (173, 4, 6, 0, 0, []) ∧ kg_lks kg_cd93 kg_sp93 173 = some (174, 0, 0, 0, 0, []) ∧ kg_lks kg_cd93 kg_sp93 174 = some (176, 4, 7, 0, 0, []) ∧ kg_lks kg_cd93 kg_sp93 176 = none ∧ kg_lks kg_cd93 kg_sp93 178 = some (180, 0, 8, 0, 0, []) ∧ kg_lks kg_cd93 kg_sp93 180 = some (183, 17, 3, 251, 0, []) ∧ kg_lks kg_cd93 kg_sp93 183 = some (185, 2, 4, 0, 0, []) ∧ kg_lks kg_cd93 kg_sp93 185 = some (186, 3, 0, 0, 0, []) ∧ kg_lks kg_cd93 kg_sp93 186 = some (187, 2, 1, 0, 0, []) ∧ kg_lks kg_cd93 kg_sp93 187 = some (189, 2, 7, 0, 0, []) ∧ kg_lks kg_cd93 kg_sp93 189 = some (192, 40, 90, 3, 52, []) ∧ kg_lks kg_cd93 kg_sp93 192 = some (193, 8, 0, 0, 0, []) ∧ kg_lks kg_cd93 kg_sp93 193 = some (195, 4, 4, 0, 0, []) ∧ kg_lks kg_cd93 kg_sp93 195 = some (197, 2, 6, 0, 0, []) ∧ kg_lks kg_cd93 kg_sp93 197 = some (200, 16, 0, 242, 0, []) ∧ kg_lks kg_cd93 kg_sp93 200 = some (201, 3, 0, 0, 0, []) ∧ kg_lks kg_cd93 kg_sp93 201 = some (202, 2, 1, 0, 0, []) ∧ kg_lks kg_cd93 kg_sp93 202 = some (204, 2, 7, 0, 0, []) ∧ kg_lks kg_cd93 kg_sp93 204 = some (205, 0, 0, 0, 0, []) ∧ kg_lks kg_cd93 kg_sp93 205 = some (208, 39, 78, 4, 8, []) ∧ kg_lks kg_cd93 kg_sp93 208 = some (209, 3, 0, 0, 0, []) ∧ kg_lks kg_cd93 kg_sp93 209 = some (210, 2, 2, 0, 0, []) ∧ kg_lks kg_cd93 kg_sp93 210 = some (212, 2, 7, 0, 0, []) ∧ kg_lks kg_cd93 kg_sp93 212 = some (213, 0, 0, 0, 0, []) ∧ kg_lks kg_cd93 kg_sp93 213 = some (216, 39, 78, 4, 8, []) ∧ kg_lks kg_cd93 kg_sp93 216 = some (219, 17, 1, 242, 0, []) ∧ kg_lks kg_cd93 kg_sp93 219 = some (220, 3, 0, 0, 0, []) ∧ kg_lks kg_cd93 kg_sp93 220 = some (221, 2, 1, 0, 0, []) ∧ kg_lks kg_cd93 kg_sp93 221 = some (223, 2, 7, 0, 0, []) ∧ kg_lks kg_cd93 kg_sp93 223 = some (224, 0, 1, 0, 0, []) ∧ kg_lks kg_cd93 kg_sp93 224 = some (227, 39, 78, 4, 8, []) ∧ kg_lks kg_cd93 kg_sp93 227 = some (228, 3, 0, 0, 0, []) ∧ kg_lks kg_cd93 kg_sp93 228 = some (229, 2, 2, 0, 0, []) ∧ kg_lks kg_cd93 kg_sp93 229 = some (231, 2, 7, 0, 0, []) ∧ kg_lks kg_cd93 kg_sp93 231 = some (232, 0, 1, 0, 0, []) ∧ kg_lks kg_cd93 kg_sp93 232 = some (235, 39, 78, 4, 8, []) ∧ kg_lks kg_cd93 kg_sp93 235 = some (238, 17, 1, 242, 0, []) ∧ kg_lks kg_cd93 kg_sp93 238 = some (239, 0, 1, 0, 0, []) ∧ kg_lks kg_cd93 kg_sp93 239 = some (242, 18, 0, 243, 0, []) ∧ kg_lks kg_cd93 kg_sp93 242 = some (243, 0, 0, 0, 0, []) ∧ kg_lks kg_cd93 kg_sp93 243 = some (245, 4, 6, 0, 0, []) ∧ kg_lks kg_cd93 kg_sp93 245 = some (248, 6, 7, 1, 0, []) ∧ kg_lks kg_cd93 kg_sp93 248 = some (251, 18, 0, 176, 0, []) ∧ kg_lks kg_cd93 kg_sp93 251 = some (253, 2, 6, 0, 0, []) ∧ kg_lks kg_cd93 kg_sp93 253 = some (256, 16, 0, 265, 0, []) ∧ kg_lks kg_cd93 kg_sp93 256 = some (258, 2, 4, 0, 0, []) ∧ kg_lks kg_cd93 kg_sp93 258 = some (261, 16, 1, 265, 0, []) ∧ kg_lks kg_cd93 kg_sp93 261 = some (262, 0, 1, 0, 0, []) ∧ kg_lks kg_cd93 kg_sp93 262 = some (265, 18, 0, 266, 0, []) ∧ kg_lks kg_cd93 kg_sp93 265 = some (266, 0, 0, 0, 0, []) ∧ kg_lks kg_cd93 kg_sp93 266 = some (267, 48, 0, 0, 0, []) := by refine ⟨?_, ?_, ?_, ?_, ?_, ?_, ?_, ?_, ?_, ?_, ?_, ?_, ?_, ?_, ?_, ?_, ?_, ?_, ?_, ?_, ?_, ?_, ?_, ?_, ?_, ?_, ?_, ?_, ?_, ?_, ?_, ?_, ?_, ?_, ?_, ?_, ?_, ?_, ?_, ?_, ?_, ?_, ?_, ?_, ?_, ?_, ?_, ?_, ?_, ?_, ?_, ?_, ?_, ?_, ?_, ?_, ?_, ?_, ?_, ?_, ?_, ?_, ?_, ?_, ?_, ?_, ?_, ?_, ?_, ?_, ?_, ?_, ?_, ?_, ?_, ?_, ?_, ?_, ?_, ?_, ?_, ?_, ?_, ?_, ?_, ?_, ?_, ?_, ?_, ?_, ?_, ?_, ?_, ?_, ?_, ?_, ?_, ?_, ?_, ?_, ?_, ?_, ?_, ?_, ?_, ?_, ?_, ?_, ?_, ?_, ?_, ?_, ?_, ?_, ?_, ?_, ?_, ?_, ?_, ?_, ?_, ?_, ?_, ?_, ?_, ?_, ?_, ?_, ?_, ?_, ?_, ?_, ?_, ?_, ?_, ?_, ?_, ?_, ?_, ?_, ?_, ?_, ?_, ?_, ?_, ?_⟩ <;> rfl
theorem kg_v93 {G : kg_G} (hL : G.2.2.2.2.2.1 < 2 ^ 31) {d N0 NX : Nat} (hd : 1 ≤ d) {K : kg_Qt} (f : Nat) {pc : Nat} {ls : List (Option Value)} {st : List Value} {w : kg_W} {M : kg_M} (h : kg_go G NX (kg_call G d NX) (kg_ret 2 NX K) kg_cd93 kg_sp93 (kg_P G d 93 9 N0 NX K) f pc ls st w M) : kg_P G d 93 9 N0 NX K pc ls st w M := kg_vgo hL hd kg_ok93 rfl rfl rfl rfl (fun e => by cases e) h
theorem kg_m93 {G : kg_G} {d NX : Nat} {K : kg_Qt} {args : List Value} {w : kg_W} {M : kg_M} (hal : args.length ≤ 9) (hw : w.1 ≤ NX) (h : kg_P G d 93 9 w.1 NX K 0 (kg_pad 9 args) [] w M) : kg_call G (d + 1) NX 93 args w M K := kg_P_call (by omega) rfl hal hw h
def kg_sp94 : List Nat := [9, 17, 49]
set_option maxRecDepth 100000 in
theorem kg_ls94 : kg_lks kg_cd94 kg_sp94 0 = some (1, 3, 0, 0, 0, []) ∧ kg_lks kg_cd94 kg_sp94 1 = some (4, 39, 83, 1, 65, []) ∧ kg_lks kg_cd94 kg_sp94 4 = some (5, 4, 1, 0, 0, []) ∧ kg_lks kg_cd94 kg_sp94 5 = some (6, 0, 1, 0, 0, []) ∧ kg_lks kg_cd94 kg_sp94 6 = some (7, 4, 2, 0, 0, []) ∧ kg_lks kg_cd94 kg_sp94 7 = some (8, 0, 0, 0, 0, []) ∧ kg_lks kg_cd94 kg_sp94 8 = some (9, 4, 3, 0, 0, []) ∧ kg_lks kg_cd94 kg_sp94 9 = none ∧ kg_lks kg_cd94 kg_sp94 10 = some (11, 0, 4, 0, 0, []) ∧ kg_lks kg_cd94 kg_sp94 11 = some (14, 17, 3, 148, 0, []) ∧ kg_lks kg_cd94 kg_sp94 14 = some (15, 0, 0, 0, 0, []) ∧ kg_lks kg_cd94 kg_sp94 15 = some (17, 4, 4, 0, 0, []) ∧ kg_lks kg_cd94 kg_sp94 17 = none ∧ kg_lks kg_cd94 kg_sp94 19 = some (21, 0, 8, 0, 0, []) ∧ kg_lks kg_cd94 kg_sp94 21 = some (24, 17, 3, 142, 0, []) ∧ kg_lks kg_cd94 kg_sp94 24 = some (25, 3, 0, 0, 0, []) ∧ kg_lks kg_cd94 kg_sp94 25 = some (26, 2, 3, 0, 0, []) ∧ kg_lks kg_cd94 kg_sp94 26 = some (28, 2, 4, 0, 0, []) ∧ kg_lks kg_cd94 kg_sp94 28 = some (29, 0, 0, 0, 0, []) ∧ kg_lks kg_cd94 kg_sp94 29 = some (32, 39, 78, 4, 8, []) ∧ kg_lks kg_cd94 kg_sp94 32 = some (33, 0, 2, 0, 0, []) ∧ kg_lks kg_cd94 kg_sp94 33 = some (36, 17, 1, 40, 0, []) ∧ kg_lks kg_cd94 kg_sp94 36 = some (37, 0, 1, 0, 0, []) ∧ kg_lks kg_cd94 kg_sp94 37 = some (40, 18, 0, 41, 0, []) ∧ kg_lks kg_cd94 kg_sp94 40 = some (41, 0, 0, 0, 0, []) ∧ kg_lks kg_cd94 kg_sp94 41 = some (43, 4, 5, 0, 0, []) ∧ kg_lks kg_cd94 kg_sp94 43 = some (44, 0, 0, 0, 0, []) ∧ kg_lks kg_cd94 kg_sp94 44 = some (46, 4, 6, 0, 0, []) ∧ kg_lks kg_cd94 kg_sp94 46 = some (47, 0, 0, 0, 0, []) ∧ kg_lks kg_cd94 kg_sp94 47 = some (49, 4, 7, 0, 0, []) ∧ kg_lks kg_cd94 kg_sp94 49 = none ∧ kg_lks kg_cd94 kg_sp94 51 = some (52, 0, 4, 0, 0, []) ∧ kg_lks kg_cd94 kg_sp94 52 = some (55, 17, 3, 91, 0, []) ∧ kg_lks kg_cd94 kg_sp94 55 = some (57, 2, 6, 0, 0, []) ∧ kg_lks kg_cd94 kg_sp94 57 = some (60, 16, 1, 78, 0, []) ∧ kg_lks kg_cd94 kg_sp94 60 = some (61, 3, 0, 0, 0, []) ∧ kg_lks kg_cd94 kg_sp94 61 = some (63, 2, 7, 0, 0, []) ∧ kg_lks kg_cd94 kg_sp94 63 = some (65, 2, 4, 0, 0, []) ∧ kg_lks kg_cd94 kg_sp94 65 = some (68, 40, 90, 3, 52, []) ∧ kg_lks kg_cd94 kg_sp94 68 = some (69, 3, 0, 0, 0, []) ∧ kg_lks kg_cd94 kg_sp94 69 = some (70, 2, 3, 0, 0, []) ∧ kg_lks kg_cd94 kg_sp94 70 = some (72, 2, 4, 0, 0, []) ∧ kg_lks kg_cd94 kg_sp94 72 = some (75, 40, 90, 3, 52, []) ∧ kg_lks kg_cd94 kg_sp94 75 = some (78, 17, 3, 82, 0, []) ∧ kg_lks kg_cd94 kg_sp94 78 = some (79, 0, 1, 0, 0, []) ∧ kg_lks kg_cd94 kg_sp94 79 = some (82, 18, 0, 83, 0, []) ∧ kg_lks kg_cd94 kg_sp94 82 = some (83, 0, 0, 0, 0, []) ∧ kg_lks kg_cd94 kg_sp94 83 = some (85, 4, 6, 0, 0, []) ∧ kg_lks kg_cd94 kg_sp94 85 = some (88, 6, 7, 1, 0, []) ∧ kg_lks kg_cd94 kg_sp94 88 = some (91, 18, 0, 49, 0, []) ∧ kg_lks kg_cd94 kg_sp94 91 = some (93, 2, 5, 0, 0, []) ∧ kg_lks kg_cd94 kg_sp94 93 = some (96, 16, 0, 120, 0, []) ∧ kg_lks kg_cd94 kg_sp94 96 = some (98, 2, 6, 0, 0, []) ∧ kg_lks kg_cd94 kg_sp94 98 = some (101, 16, 0, 120, 0, []) ∧ kg_lks kg_cd94 kg_sp94 101 = some (102, 3, 0, 0, 0, []) ∧ kg_lks kg_cd94 kg_sp94 102 = some (103, 0, 0, 0, 0, []) ∧ kg_lks kg_cd94 kg_sp94 103 = some (106, 39, 86, 2, 14, []) ∧ kg_lks kg_cd94 kg_sp94 106 = some (107, 3, 0, 0, 0, []) ∧ kg_lks kg_cd94 kg_sp94 107 = some (108, 2, 3, 0, 0, []) ∧ kg_lks kg_cd94 kg_sp94 108 = some (110, 2, 4, 0, 0, []) ∧ kg_lks kg_cd94 kg_sp94 110 = some (111, 0, 3, 0, 0, []) ∧ kg_lks kg_cd94 kg_sp94 111 = some (114, 39, 78, 4, 8, []) ∧ kg_lks kg_cd94 kg_sp94 114 = some (115, 8, 0, 0, 0, []) ∧ kg_lks kg_cd94 kg_sp94 115 = some (116, 0, 1, 0, 0, []) ∧ kg_lks kg_cd94 kg_sp94 116 = some (117, 7, 0, 0, 0, []) ∧ kg_lks kg_cd94 kg_sp94 117 = some (120, 18, 0, 121, 0, []) ∧ kg_lks kg_cd94 kg_sp94 120 = some (121, 0, 1, 0, 0, []) ∧ kg_lks kg_cd94 kg_sp94 121 = some (123, 4, 7, 0, 0, []) ∧ kg_lks kg_cd94 kg_sp94 123 = some (125, 2, 7, 0, 0, []) ∧ kg_lks kg_cd94 kg_sp94 125 = some (126, 2, 2, 0, 0, []) ∧ kg_lks kg_cd94 kg_sp94 126 = some (129, 17, 5, 134, 0, []) ∧ kg_lks kg_cd94 kg_sp94 129 = some (131, 2, 7, 0, 0, []) ∧ kg_lks kg_cd94 kg_sp94 131 = some (134, 18, 0, 135, 0, []) ∧ kg_lks kg_cd94 kg_sp94 134 = some (135, 2, 2, 0, 0, []) ∧ kg_lks kg_cd94 kg_sp94 135 = some (136, 4, 2, 0, 0, []) ∧ kg_lks kg_cd94 kg_sp94 136 = some (139, 6, 4, 1, 0, []) ∧ kg_lks kg_cd94 kg_sp94 139 = some (142, 18, 0, 17, 0, []) ∧ kg_lks kg_cd94 kg_sp94 142 = some (145, 6, 3, 1, 0, []) ∧ kg_lks kg_cd94 kg_sp94 145 = some (148, 18, 0, 9, 0, []) ∧ kg_lks kg_cd94 kg_sp94 148 = some (149, 2, 1, 0, 0, []) ∧ kg_lks kg_cd94 kg_sp94 149 = some (150, 2, 2, 0, 0, []) ∧ kg_lks kg_cd94 kg_sp94 150 = some (153, 17, 1, 171, 0, []) ∧ kg_lks kg_cd94 kg_sp94 153 = some (154, 3, 0, 0, 0, []) ∧ kg_lks kg_cd94 kg_sp94 154 = some (156, 0, 10, 0, 0, []) ∧ kg_lks kg_cd94 kg_sp94 156 = some (159, 39, 86, 2, 14, []) ∧ kg_lks kg_cd94 kg_sp94 159 = some (162, 16, 4, 167, 0, []) ∧ kg_lks kg_cd94 kg_sp94 162 = some (163, 2, 1, 0, 0, []) ∧ kg_lks kg_cd94 kg_sp94 163 = some (164, 0, 1, 0, 0, []) ∧ kg_lks kg_cd94 kg_sp94 164 = some (167, 17, 1, 171, 0, []) ∧ kg_lks kg_cd94 kg_sp94 167 = some (168, 0, 1, 0, 0, []) ∧ kg_lks kg_cd94 kg_sp94 168 = some (171, 18, 0, 172, 0, []) ∧ kg_lks kg_cd94 kg_sp94 171 = some (172, 0, 0, 0, 0, []) ∧ kg_lks kg_cd94 kg_sp94 172 = some (173, 48, 0, 0, 0, []) := by refine ⟨?_, ?_, ?_, ?_, ?_, ?_, ?_, ?_, ?_, ?_, ?_, ?_, ?_, ?_, ?_, ?_, ?_, ?_, ?_, ?_, ?_, ?_, ?_, ?_, ?_, ?_, ?_, ?_, ?_, ?_, ?_, ?_, ?_, ?_, ?_, ?_, ?_, ?_, ?_, ?_, ?_, ?_, ?_, ?_, ?_, ?_, ?_, ?_, ?_, ?_, ?_, ?_, ?_, ?_, ?_, ?_, ?_, ?_, ?_, ?_, ?_, ?_, ?_, ?_, ?_, ?_, ?_, ?_, ?_, ?_, ?_, ?_, ?_, ?_, ?_, ?_, ?_, ?_, ?_, ?_, ?_, ?_, ?_, ?_, ?_, ?_, ?_, ?_, ?_, ?_, ?_, ?_, ?_⟩ <;> rfl
theorem kg_v94 {G : kg_G} (hL : G.2.2.2.2.2.1 < 2 ^ 31) {d N0 NX : Nat} (hd : 1 ≤ d) {K : kg_Qt} (f : Nat) {pc : Nat} {ls : List (Option Value)} {st : List Value} {w : kg_W} {M : kg_M} (h : kg_go G NX (kg_call G d NX) (kg_ret 2 NX K) kg_cd94 kg_sp94 (kg_P G d 94 8 N0 NX K) f pc ls st w M) : kg_P G d 94 8 N0 NX K pc ls st w M := kg_vgo hL hd kg_ok94 rfl rfl rfl rfl (fun e => by cases e) h
theorem kg_m94 {G : kg_G} {d NX : Nat} {K : kg_Qt} {args : List Value} {w : kg_W} {M : kg_M} (hal : args.length ≤ 8) (hw : w.1 ≤ NX) (h : kg_P G d 94 8 w.1 NX K 0 (kg_pad 8 args) [] w M) : kg_call G (d + 1) NX 94 args w M K := kg_P_call (by omega) rfl hal hw h
def kg_sp95 : List Nat := [19, 29]
set_option maxRecDepth 100000 in
theorem kg_ls95 : kg_lks kg_cd95 kg_sp95 0 = some (1, 3, 0, 0, 0, []) ∧ kg_lks kg_cd95 kg_sp95 1 = some (4, 39, 82, 1, 69, []) ∧ kg_lks kg_cd95 kg_sp95 4 = some (5, 4, 1, 0, 0, []) ∧ kg_lks kg_cd95 kg_sp95 5 = some (6, 3, 0, 0, 0, []) ∧ kg_lks kg_cd95 kg_sp95 6 = some (7, 2, 1, 0, 0, []) ∧ kg_lks kg_cd95 kg_sp95 7 = some (8, 0, 4, 0, 0, []) ∧ kg_lks kg_cd95 kg_sp95 8 = some (9, 51, 0, 0, 0, []) ∧ kg_lks kg_cd95 kg_sp95 9 = some (10, 2, 1, 0, 0, []) ∧ kg_lks kg_cd95 kg_sp95 10 = some (11, 0, 4, 0, 0, []) ∧ kg_lks kg_cd95 kg_sp95 11 = some (12, 10, 0, 0, 0, []) ∧ kg_lks kg_cd95 kg_sp95 12 = some (13, 0, 0, 0, 0, []) ∧ kg_lks kg_cd95 kg_sp95 13 = some (16, 39, 81, 4, 59, []) ∧ kg_lks kg_cd95 kg_sp95 16 = some (17, 4, 2, 0, 0, []) ∧ kg_lks kg_cd95 kg_sp95 17 = some (18, 0, 0, 0, 0, []) ∧ kg_lks kg_cd95 kg_sp95 18 = some (19, 4, 3, 0, 0, []) ∧ kg_lks kg_cd95 kg_sp95 19 = none ∧ kg_lks kg_cd95 kg_sp95 20 = some (21, 0, 4, 0, 0, []) ∧ kg_lks kg_cd95 kg_sp95 21 = some (24, 17, 3, 81, 0, []) ∧ kg_lks kg_cd95 kg_sp95 24 = some (25, 2, 3, 0, 0, []) ∧ kg_lks kg_cd95 kg_sp95 25 = some (26, 0, 1, 0, 0, []) ∧ kg_lks kg_cd95 kg_sp95 26 = some (27, 7, 0, 0, 0, []) ∧ kg_lks kg_cd95 kg_sp95 27 = some (29, 4, 4, 0, 0, []) ∧ kg_lks kg_cd95 kg_sp95 29 = none ∧ kg_lks kg_cd95 kg_sp95 31 = some (32, 0, 4, 0, 0, []) ∧ kg_lks kg_cd95 kg_sp95 32 = some (35, 17, 3, 75, 0, []) ∧ kg_lks kg_cd95 kg_sp95 35 = some (36, 3, 0, 0, 0, []) ∧ kg_lks kg_cd95 kg_sp95 36 = some (37, 2, 3, 0, 0, []) ∧ kg_lks kg_cd95 kg_sp95 37 = some (39, 2, 4, 0, 0, []) ∧ kg_lks kg_cd95 kg_sp95 39 = some (40, 0, 0, 0, 0, []) ∧ kg_lks kg_cd95 kg_sp95 40 = some (43, 39, 81, 4, 59, []) ∧ kg_lks kg_cd95 kg_sp95 43 = some (45, 4, 5, 0, 0, []) ∧ kg_lks kg_cd95 kg_sp95 45 = some (47, 2, 5, 0, 0, []) ∧ kg_lks kg_cd95 kg_sp95 47 = some (48, 2, 2, 0, 0, []) ∧ kg_lks kg_cd95 kg_sp95 48 = some (51, 17, 2, 67, 0, []) ∧ kg_lks kg_cd95 kg_sp95 51 = some (53, 2, 5, 0, 0, []) ∧ kg_lks kg_cd95 kg_sp95 53 = some (54, 2, 2, 0, 0, []) ∧ kg_lks kg_cd95 kg_sp95 54 = some (57, 17, 1, 69, 0, []) ∧ kg_lks kg_cd95 kg_sp95 57 = some (58, 0, 4, 0, 0, []) ∧ kg_lks kg_cd95 kg_sp95 58 = some (59, 2, 3, 0, 0, []) ∧ kg_lks kg_cd95 kg_sp95 59 = some (60, 9, 0, 0, 0, []) ∧ kg_lks kg_cd95 kg_sp95 60 = some (62, 2, 4, 0, 0, []) ∧ kg_lks kg_cd95 kg_sp95 62 = some (63, 7, 0, 0, 0, []) ∧ kg_lks kg_cd95 kg_sp95 63 = some (64, 2, 1, 0, 0, []) ∧ kg_lks kg_cd95 kg_sp95 64 = some (67, 17, 3, 69, 0, []) ∧ kg_lks kg_cd95 kg_sp95 67 = some (68, 0, 0, 0, 0, []) ∧ kg_lks kg_cd95 kg_sp95 68 = some (69, 48, 0, 0, 0, []) ∧ kg_lks kg_cd95 kg_sp95 69 = some (72, 6, 4, 1, 0, []) ∧ kg_lks kg_cd95 kg_sp95 72 = some (75, 18, 0, 29, 0, []) ∧ kg_lks kg_cd95 kg_sp95 75 = some (78, 6, 3, 1, 0, []) ∧ kg_lks kg_cd95 kg_sp95 78 = some (81, 18, 0, 19, 0, []) ∧ kg_lks kg_cd95 kg_sp95 81 = some (82, 0, 1, 0, 0, []) ∧ kg_lks kg_cd95 kg_sp95 82 = some (83, 48, 0, 0, 0, []) := by refine ⟨?_, ?_, ?_, ?_, ?_, ?_, ?_, ?_, ?_, ?_, ?_, ?_, ?_, ?_, ?_, ?_, ?_, ?_, ?_, ?_, ?_, ?_, ?_, ?_, ?_, ?_, ?_, ?_, ?_, ?_, ?_, ?_, ?_, ?_, ?_, ?_, ?_, ?_, ?_, ?_, ?_, ?_, ?_, ?_, ?_, ?_, ?_, ?_, ?_, ?_, ?_, ?_⟩ <;> rfl
theorem kg_v95 {G : kg_G} (hL : G.2.2.2.2.2.1 < 2 ^ 31) {d N0 NX : Nat} (hd : 1 ≤ d) {K : kg_Qt} (f : Nat) {pc : Nat} {ls : List (Option Value)} {st : List Value} {w : kg_W} {M : kg_M} (h : kg_go G NX (kg_call G d NX) (kg_ret 2 NX K) kg_cd95 kg_sp95 (kg_P G d 95 6 N0 NX K) f pc ls st w M) : kg_P G d 95 6 N0 NX K pc ls st w M := kg_vgo hL hd kg_ok95 rfl rfl rfl rfl (fun e => by cases e) h
theorem kg_m95 {G : kg_G} {d NX : Nat} {K : kg_Qt} {args : List Value} {w : kg_W} {M : kg_M} (hal : args.length ≤ 6) (hw : w.1 ≤ NX) (h : kg_P G d 95 6 w.1 NX K 0 (kg_pad 6 args) [] w M) : kg_call G (d + 1) NX 95 args w M K := kg_P_call (by omega) rfl hal hw h
end
