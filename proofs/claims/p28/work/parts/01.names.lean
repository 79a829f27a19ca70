-- ===== PART A: goes FIRST, ahead of the names: the tables' words, and 'selects' of the private methods out of them =====
/-- a private method of a class that the tables say can be made, by its rows of tables_1 -/
def lw_okq (q : MethodName × Nat) : Prop := (q.1.cls ≠ "java/lang/invoke/MethodHandle" ∧ q.1.cls ≠ "java/lang/invoke/VarHandle") ∧ Cond.instantiable q.1.cls q.2 ∈ tables_1 ∧ Cond.privateMethod q.1 ∈ tables_1 ∧ Cond.instanceMethod q.1 ∈ tables_1
theorem lw_p0 : lw_okq (⟨"KeyGraves$State", "reach", "(II)V"⟩, 10) := ⟨⟨by decide +kernel, by decide +kernel⟩, List.mem_of_getElem? (i := 18) (by decide +kernel), List.mem_of_getElem? (i := 194) (by decide +kernel), List.mem_of_getElem? (i := 195) (by decide +kernel)⟩
theorem lw_p1 : lw_okq (⟨"KeyGraves$State", "stampOf", "(II)I"⟩, 10) := ⟨⟨by decide +kernel, by decide +kernel⟩, List.mem_of_getElem? (i := 18) (by decide +kernel), List.mem_of_getElem? (i := 198) (by decide +kernel), List.mem_of_getElem? (i := 199) (by decide +kernel)⟩
theorem lw_p2 : lw_okq (⟨"KeyGraves", "record", "()V"⟩, 6) := ⟨⟨by decide +kernel, by decide +kernel⟩, List.mem_of_getElem? (i := 10) (by decide +kernel), List.mem_of_getElem? (i := 209) (by decide +kernel), List.mem_of_getElem? (i := 210) (by decide +kernel)⟩
theorem lw_p3 : lw_okq (⟨"KeyGraves$State", "learn", "(III)V"⟩, 10) := ⟨⟨by decide +kernel, by decide +kernel⟩, List.mem_of_getElem? (i := 18) (by decide +kernel), List.mem_of_getElem? (i := 239) (by decide +kernel), List.mem_of_getElem? (i := 240) (by decide +kernel)⟩
theorem lw_p4 : lw_okq (⟨"KeyGraves$State", "ticksSince", "(II)I"⟩, 10) := ⟨⟨by decide +kernel, by decide +kernel⟩, List.mem_of_getElem? (i := 18) (by decide +kernel), List.mem_of_getElem? (i := 302) (by decide +kernel), List.mem_of_getElem? (i := 303) (by decide +kernel)⟩
theorem lw_p5 : lw_okq (⟨"KeyGraves$State", "isClearable", "(II)Z"⟩, 10) := ⟨⟨by decide +kernel, by decide +kernel⟩, List.mem_of_getElem? (i := 18) (by decide +kernel), List.mem_of_getElem? (i := 310) (by decide +kernel), List.mem_of_getElem? (i := 311) (by decide +kernel)⟩
theorem lw_p6 : lw_okq (⟨"KeyGraves$State", "isRepairedSince", "(II)Z"⟩, 10) := ⟨⟨by decide +kernel, by decide +kernel⟩, List.mem_of_getElem? (i := 18) (by decide +kernel), List.mem_of_getElem? (i := 314) (by decide +kernel), List.mem_of_getElem? (i := 315) (by decide +kernel)⟩
theorem lw_p7 : lw_okq (⟨"KeyGraves$State", "isUnsettledGrave", "(II)Z"⟩, 10) := ⟨⟨by decide +kernel, by decide +kernel⟩, List.mem_of_getElem? (i := 18) (by decide +kernel), List.mem_of_getElem? (i := 353) (by decide +kernel), List.mem_of_getElem? (i := 354) (by decide +kernel)⟩
theorem lw_p8 : lw_okq (⟨"KeyGraves$State", "lowerNodeKnowsSame", "(II)Z"⟩, 10) := ⟨⟨by decide +kernel, by decide +kernel⟩, List.mem_of_getElem? (i := 18) (by decide +kernel), List.mem_of_getElem? (i := 358) (by decide +kernel), List.mem_of_getElem? (i := 359) (by decide +kernel)⟩
theorem lw_p9 : lw_okq (⟨"KeyGraves$State", "logPair", "(III)V"⟩, 10) := ⟨⟨by decide +kernel, by decide +kernel⟩, List.mem_of_getElem? (i := 18) (by decide +kernel), List.mem_of_getElem? (i := 441) (by decide +kernel), List.mem_of_getElem? (i := 442) (by decide +kernel)⟩
def lw_privs_1 : List (MethodName × Nat) := [(⟨"KeyGraves$State", "reach", "(II)V"⟩, 10), (⟨"KeyGraves$State", "stampOf", "(II)I"⟩, 10), (⟨"KeyGraves", "record", "()V"⟩, 6), (⟨"KeyGraves$State", "learn", "(III)V"⟩, 10), (⟨"KeyGraves$State", "ticksSince", "(II)I"⟩, 10), (⟨"KeyGraves$State", "isClearable", "(II)Z"⟩, 10), (⟨"KeyGraves$State", "isRepairedSince", "(II)Z"⟩, 10), (⟨"KeyGraves$State", "isUnsettledGrave", "(II)Z"⟩, 10), (⟨"KeyGraves$State", "lowerNodeKnowsSame", "(II)Z"⟩, 10), (⟨"KeyGraves$State", "logPair", "(III)V"⟩, 10)]
theorem lw_r1 : ∀ q ∈ lw_privs_1, lw_okq q := List.forall_mem_cons.mpr ⟨lw_p0, List.forall_mem_cons.mpr ⟨lw_p1, List.forall_mem_cons.mpr ⟨lw_p2, List.forall_mem_cons.mpr ⟨lw_p3, List.forall_mem_cons.mpr ⟨lw_p4, List.forall_mem_cons.mpr ⟨lw_p5, List.forall_mem_cons.mpr ⟨lw_p6, List.forall_mem_cons.mpr ⟨lw_p7, List.forall_mem_cons.mpr ⟨lw_p8, List.forall_mem_cons.mpr ⟨lw_p9, fun _ h => absurd h List.not_mem_nil⟩⟩⟩⟩⟩⟩⟩⟩⟩⟩
def lw_privs : List (MethodName × Nat) := lw_privs_1
def lw_tbl : List Cond := k2_sels lw_privs ++ tables_1
theorem lw_privs_ok : ∀ q ∈ lw_privs, lw_okq q := lw_r1
def RX0 : String := "KeyGraves$EventLog"
def TX0 : u_T := fun k => match k with
  | 0 => ("KeyGraves$EventLog", "size", "I", false)
  | 1 => ("KeyGraves$EventLog", "newest", "I", false)
  | 2 => ("KeyGraves$EventLog", "counts", "[I", true)
  | 3 => ("KeyGraves$EventLog", "kinds", "[I", true)
  | 4 => ("KeyGraves$EventLog", "ticks", "[I", true)
  | 5 => ("KeyGraves$EventLog", "firsts", "[I", true)
  | _ => ("KeyGraves$EventLog", "seconds", "[I", true)
def tyX0 : Nat → FieldType := fun k => match k with
  | 0 => .int
  | 1 => .int
  | 2 => .array .int
  | 3 => .array .int
  | 4 => .array .int
  | 5 => .array .int
  | _ => .array .int
abbrev wsX00 : List Cond := u_ws RX0 TX0 7
theorem nmX0 : ∀ a, a < 7 → ∀ b, b < 7 → a ≠ b → (TX0 a).2.1 ≠ (TX0 b).2.1 := by decide +kernel
theorem tyX0_ok : ∀ k, k < 7 → parseFieldDescriptor (TX0 k).2.2.1 = some (tyX0 k) := by decide +kernel
abbrev cX0_init : ByteArray := prog_2_method_1_code
def yX0_init : MethodName := ⟨RX0, "<init>", "()V"⟩
abbrev cX0_copyFrom : ByteArray := prog_2_method_2_code
def yX0_copyFrom : MethodName := ⟨RX0, "copyFrom", "(LKeyGraves$EventLog;)V"⟩
abbrev cX0_add : ByteArray := prog_2_method_3_code
def yX0_add : MethodName := ⟨RX0, "add", "(IIII)V"⟩
def RX1 : String := "KeyGraves$Facts"
def TX1 : u_T := fun k => match k with
  | 0 => ("KeyGraves$Facts", "stamps", "[I", true)
  | 1 => ("KeyGraves$Facts", "contents", "[I", true)
  | 2 => ("KeyGraves$Facts", "ticks", "[I", true)
  | _ => ("KeyGraves$Facts", "learned", "[I", true)
def tyX1 : Nat → FieldType := fun k => match k with
  | 0 => .array .int
  | 1 => .array .int
  | 2 => .array .int
  | _ => .array .int
abbrev wsX10 : List Cond := u_ws RX1 TX1 4
theorem nmX1 : ∀ a, a < 4 → ∀ b, b < 4 → a ≠ b → (TX1 a).2.1 ≠ (TX1 b).2.1 := by decide +kernel
theorem tyX1_ok : ∀ k, k < 4 → parseFieldDescriptor (TX1 k).2.2.1 = some (tyX1 k) := by decide +kernel
abbrev cX1_init : ByteArray := prog_3_method_1_code
def yX1_init : MethodName := ⟨RX1, "<init>", "()V"⟩
abbrev cX1_copyFrom : ByteArray := prog_3_method_2_code
def yX1_copyFrom : MethodName := ⟨RX1, "copyFrom", "(LKeyGraves$Facts;)V"⟩
abbrev cX1_kindAt : ByteArray := prog_3_method_3_code
def yX1_kindAt : MethodName := ⟨RX1, "kindAt", "(I)I"⟩
abbrev cX1_valueAt : ByteArray := prog_3_method_4_code
def yX1_valueAt : MethodName := ⟨RX1, "valueAt", "(I)I"⟩
abbrev cX1_put : ByteArray := prog_3_method_5_code
def yX1_put : MethodName := ⟨RX1, "put", "(IIII)V"⟩
abbrev cX1_take : ByteArray := prog_3_method_6_code
def yX1_take : MethodName := ⟨RX1, "take", "(III)V"⟩
abbrev cX1_forget : ByteArray := prog_3_method_7_code
def yX1_forget : MethodName := ⟨RX1, "forget", "(I)V"⟩
def RX2 : String := "KeyGraves$Plan"
def TX2 : u_T := fun k => match k with
  | 0 => ("KeyGraves$Plan", "size", "I", false)
  | 1 => ("KeyGraves$Plan", "ones", "[I", true)
  | 2 => ("KeyGraves$Plan", "others", "[I", true)
  | _ => ("KeyGraves$Plan", "ticks", "[I", true)
def tyX2 : Nat → FieldType := fun k => match k with
  | 0 => .int
  | 1 => .array .int
  | 2 => .array .int
  | _ => .array .int
abbrev wsX20 : List Cond := u_ws RX2 TX2 4
theorem nmX2 : ∀ a, a < 4 → ∀ b, b < 4 → a ≠ b → (TX2 a).2.1 ≠ (TX2 b).2.1 := by decide +kernel
theorem tyX2_ok : ∀ k, k < 4 → parseFieldDescriptor (TX2 k).2.2.1 = some (tyX2 k) := by decide +kernel
abbrev cX2_init : ByteArray := prog_4_method_1_code
def yX2_init : MethodName := ⟨RX2, "<init>", "()V"⟩
abbrev cX2_copyFrom : ByteArray := prog_4_method_2_code
def yX2_copyFrom : MethodName := ⟨RX2, "copyFrom", "(LKeyGraves$Plan;)V"⟩
abbrev cX2_add : ByteArray := prog_4_method_3_code
def yX2_add : MethodName := ⟨RX2, "add", "(III)V"⟩
def RX3 : String := "KeyGraves$PlanText"
def TX3 : u_T := fun k => match k with
  | 0 => ("KeyGraves$PlanText", "signs", "[C", true)
  | _ => ("KeyGraves$PlanText", "length", "I", false)
def tyX3 : Nat → FieldType := fun k => match k with
  | 0 => .array .char
  | _ => .int
abbrev wsX30 : List Cond := u_ws RX3 TX3 2
theorem nmX3 : ∀ a, a < 2 → ∀ b, b < 2 → a ≠ b → (TX3 a).2.1 ≠ (TX3 b).2.1 := by decide +kernel
theorem tyX3_ok : ∀ k, k < 2 → parseFieldDescriptor (TX3 k).2.2.1 = some (tyX3 k) := by decide +kernel
abbrev cX3_init : ByteArray := prog_5_method_1_code
def yX3_init : MethodName := ⟨RX3, "<init>", "()V"⟩
def RX4 : String := "KeyGraves$State"
def TX4 : u_T := fun k => match k with
  | 0 => ("KeyGraves$State", "tick", "I", false)
  | 1 => ("KeyGraves$State", "stampsGiven", "I", false)
  | 2 => ("KeyGraves$State", "settings", "[I", true)
  | 3 => ("KeyGraves$State", "up", "[Z", true)
  | 4 => ("KeyGraves$State", "facts", "LKeyGraves$Facts;", true)
  | 5 => ("KeyGraves$State", "lastRepairs", "[I", true)
  | 6 => ("KeyGraves$State", "plan", "LKeyGraves$Plan;", true)
  | 7 => ("KeyGraves$State", "log", "LKeyGraves$EventLog;", true)
  | 8 => ("KeyGraves$State", "reached", "[I", true)
  | _ => ("KeyGraves$State", "reachedCount", "I", false)
def tyX4 : Nat → FieldType := fun k => match k with
  | 0 => .int
  | 1 => .int
  | 2 => .array .int
  | 3 => .array .boolean
  | 4 => .object "KeyGraves$Facts"
  | 5 => .array .int
  | 6 => .object "KeyGraves$Plan"
  | 7 => .object "KeyGraves$EventLog"
  | 8 => .array .int
  | _ => .int
abbrev wsX40 : List Cond := u_ws RX4 TX4 10
theorem nmX4 : ∀ a, a < 10 → ∀ b, b < 10 → a ≠ b → (TX4 a).2.1 ≠ (TX4 b).2.1 := by decide +kernel
theorem tyX4_ok : ∀ k, k < 10 → parseFieldDescriptor (TX4 k).2.2.1 = some (tyX4 k) := by decide +kernel
abbrev cX4_init : ByteArray := prog_6_method_1_code
def yX4_init : MethodName := ⟨RX4, "<init>", "()V"⟩
abbrev cX4_copyFrom : ByteArray := prog_6_method_2_code
def yX4_copyFrom : MethodName := ⟨RX4, "copyFrom", "(LKeyGraves$State;)V"⟩
abbrev cX4_reach : ByteArray := prog_6_method_3_code
def yX4_reach : MethodName := ⟨RX4, "reach", "(II)V"⟩
abbrev cX4_spread : ByteArray := prog_6_method_4_code
def yX4_spread : MethodName := ⟨RX4, "spread", "(III)I"⟩
abbrev cX4_newestReached : ByteArray := prog_6_method_5_code
def yX4_newestReached : MethodName := ⟨RX4, "newestReached", "(II)I"⟩
abbrev cX4_reachedDiffer : ByteArray := prog_6_method_6_code
def yX4_reachedDiffer : MethodName := ⟨RX4, "reachedDiffer", "(II)Z"⟩
abbrev cX4_mend : ByteArray := prog_6_method_7_code
def yX4_mend : MethodName := ⟨RX4, "mend", "(II)V"⟩
abbrev cX4_stampOf : ByteArray := prog_6_method_8_code
def yX4_stampOf : MethodName := ⟨RX4, "stampOf", "(II)I"⟩
abbrev cX4_learn : ByteArray := prog_6_method_9_code
def yX4_learn : MethodName := ⟨RX4, "learn", "(III)V"⟩
abbrev cX4_join : ByteArray := prog_6_method_10_code
def yX4_join : MethodName := ⟨RX4, "join", "(II)I"⟩
abbrev cX4_logPair : ByteArray := prog_6_method_11_code
def yX4_logPair : MethodName := ⟨RX4, "logPair", "(III)V"⟩
abbrev cX4_keysKnownOtherwise : ByteArray := prog_6_method_12_code
def yX4_keysKnownOtherwise : MethodName := ⟨RX4, "keysKnownOtherwise", "(II)I"⟩
abbrev cX4_passTick : ByteArray := prog_6_method_13_code
def yX4_passTick : MethodName := ⟨RX4, "passTick", "()I"⟩
abbrev cX4_slowestPair : ByteArray := prog_6_method_14_code
def yX4_slowestPair : MethodName := ⟨RX4, "slowestPair", "()I"⟩
abbrev cX4_isGrave : ByteArray := prog_6_method_15_code
def yX4_isGrave : MethodName := ⟨RX4, "isGrave", "(II)Z"⟩
abbrev cX4_ticksSince : ByteArray := prog_6_method_16_code
def yX4_ticksSince : MethodName := ⟨RX4, "ticksSince", "(II)I"⟩
abbrev cX4_isRipe : ByteArray := prog_6_method_17_code
def yX4_isRipe : MethodName := ⟨RX4, "isRipe", "(II)Z"⟩
abbrev cX4_isClearable : ByteArray := prog_6_method_18_code
def yX4_isClearable : MethodName := ⟨RX4, "isClearable", "(II)Z"⟩
abbrev cX4_isRepairedSince : ByteArray := prog_6_method_19_code
def yX4_isRepairedSince : MethodName := ⟨RX4, "isRepairedSince", "(II)Z"⟩
abbrev cX4_clearableGraves : ByteArray := prog_6_method_20_code
def yX4_clearableGraves : MethodName := ⟨RX4, "clearableGraves", "(I)I"⟩
abbrev cX4_clearGraves : ByteArray := prog_6_method_21_code
def yX4_clearGraves : MethodName := ⟨RX4, "clearGraves", "(I)I"⟩
abbrev cX4_isSettledGrave : ByteArray := prog_6_method_22_code
def yX4_isSettledGrave : MethodName := ⟨RX4, "isSettledGrave", "(II)Z"⟩
abbrev cX4_isUnsettledGrave : ByteArray := prog_6_method_23_code
def yX4_isUnsettledGrave : MethodName := ⟨RX4, "isUnsettledGrave", "(II)Z"⟩
abbrev cX4_gravesNotSettled : ByteArray := prog_6_method_24_code
def yX4_gravesNotSettled : MethodName := ⟨RX4, "gravesNotSettled", "()I"⟩
abbrev cX4_lowerNodeKnowsSame : ByteArray := prog_6_method_25_code
def yX4_lowerNodeKnowsSame : MethodName := ⟨RX4, "lowerNodeKnowsSame", "(II)Z"⟩
abbrev cX4_safeGrace : ByteArray := prog_6_method_26_code
def yX4_safeGrace : MethodName := ⟨RX4, "safeGrace", "()I"⟩
abbrev cX4_isHaunted : ByteArray := prog_6_method_27_code
def yX4_isHaunted : MethodName := ⟨RX4, "isHaunted", "(II)Z"⟩
abbrev cX4_nodesUp : ByteArray := prog_6_method_28_code
def yX4_nodesUp : MethodName := ⟨RX4, "nodesUp", "()I"⟩
abbrev cX4_nodesWithTruth : ByteArray := prog_6_method_29_code
def yX4_nodesWithTruth : MethodName := ⟨RX4, "nodesWithTruth", "(I)I"⟩
abbrev cX4_nodesHauntedBy : ByteArray := prog_6_method_30_code
def yX4_nodesHauntedBy : MethodName := ⟨RX4, "nodesHauntedBy", "(I)I"⟩
abbrev cX4_keysThatHaunt : ByteArray := prog_6_method_31_code
def yX4_keysThatHaunt : MethodName := ⟨RX4, "keysThatHaunt", "(I)I"⟩
abbrev cX4_hauntingKeys : ByteArray := prog_6_method_32_code
def yX4_hauntingKeys : MethodName := ⟨RX4, "hauntingKeys", "()I"⟩
abbrev cX4_keysOfKind : ByteArray := prog_6_method_33_code
def yX4_keysOfKind : MethodName := ⟨RX4, "keysOfKind", "(II)I"⟩
abbrev cX4_ripeGraves : ByteArray := prog_6_method_34_code
def yX4_ripeGraves : MethodName := ⟨RX4, "ripeGraves", "(I)I"⟩
abbrev cX4_gravesOfAllNodes : ByteArray := prog_6_method_35_code
def yX4_gravesOfAllNodes : MethodName := ⟨RX4, "gravesOfAllNodes", "()I"⟩
def RX5 : String := "KeyGraves"
def TX5 : u_T := fun k => match k with
  | 0 => ("KeyGraves", "state", "LKeyGraves$State;", true)
  | 1 => ("KeyGraves", "history", "[LKeyGraves$State;", true)
  | 2 => ("KeyGraves", "historySize", "I", false)
  | 3 => ("KeyGraves", "snapshot", "LKeyGraves$State;", true)
  | 4 => ("KeyGraves", "snapshotTaken", "Z", false)
  | _ => ("KeyGraves", "text", "LKeyGraves$PlanText;", true)
def tyX5 : Nat → FieldType := fun k => match k with
  | 0 => .object "KeyGraves$State"
  | 1 => .array (.object "KeyGraves$State")
  | 2 => .int
  | 3 => .object "KeyGraves$State"
  | 4 => .boolean
  | _ => .object "KeyGraves$PlanText"
abbrev wsX50 : List Cond := u_ws RX5 TX5 6
theorem nmX5 : ∀ a, a < 6 → ∀ b, b < 6 → a ≠ b → (TX5 a).2.1 ≠ (TX5 b).2.1 := by decide +kernel
theorem tyX5_ok : ∀ k, k < 6 → parseFieldDescriptor (TX5 k).2.2.1 = some (tyX5 k) := by decide +kernel
abbrev cX5_init : ByteArray := prog_1_method_1_code
def yX5_init : MethodName := ⟨RX5, "<init>", "()V"⟩
abbrev cX5_set : ByteArray := prog_1_method_2_code
def yX5_set : MethodName := ⟨RX5, "set", "(II)I"⟩
abbrev cX5_setUp : ByteArray := prog_1_method_3_code
def yX5_setUp : MethodName := ⟨RX5, "setUp", "(IZ)I"⟩
abbrev cX5_write : ByteArray := prog_1_method_4_code
def yX5_write : MethodName := ⟨RX5, "write", "(III)I"⟩
abbrev cX5_delete : ByteArray := prog_1_method_5_code
def yX5_delete : MethodName := ⟨RX5, "delete", "(II)I"⟩
abbrev cX5_read : ByteArray := prog_1_method_6_code
def yX5_read : MethodName := ⟨RX5, "read", "(II)I"⟩
abbrev cX5_repair : ByteArray := prog_1_method_7_code
def yX5_repair : MethodName := ⟨RX5, "repair", "(II)I"⟩
abbrev cX5_clear : ByteArray := prog_1_method_8_code
def yX5_clear : MethodName := ⟨RX5, "clear", "(I)I"⟩
abbrev cX5_plan : ByteArray := prog_1_method_9_code
def yX5_plan : MethodName := ⟨RX5, "plan", "(III)I"⟩
abbrev cX5_pass : ByteArray := prog_1_method_11_code
def yX5_pass : MethodName := ⟨RX5, "pass", "(I)I"⟩
abbrev cX5_known : ByteArray := prog_1_method_17_code
def yX5_known : MethodName := ⟨RX5, "known", "(III)I"⟩
abbrev cX5_truth : ByteArray := prog_1_method_18_code
def yX5_truth : MethodName := ⟨RX5, "truth", "(II)I"⟩
abbrev cX5_node : ByteArray := prog_1_method_19_code
def yX5_node : MethodName := ⟨RX5, "node", "(II)I"⟩
abbrev cX5_pair : ByteArray := prog_1_method_20_code
def yX5_pair : MethodName := ⟨RX5, "pair", "(III)I"⟩
abbrev cX5_slowest : ByteArray := prog_1_method_21_code
def yX5_slowest : MethodName := ⟨RX5, "slowest", "()I"⟩
abbrev cX5_graceNeeded : ByteArray := prog_1_method_22_code
def yX5_graceNeeded : MethodName := ⟨RX5, "graceNeeded", "()I"⟩
abbrev cX5_count : ByteArray := prog_1_method_25_code
def yX5_count : MethodName := ⟨RX5, "count", "(I)I"⟩
abbrev cX5_setting : ByteArray := prog_1_method_26_code
def yX5_setting : MethodName := ⟨RX5, "setting", "(I)I"⟩
abbrev cX5_isNode : ByteArray := prog_1_method_27_code
def yX5_isNode : MethodName := ⟨RX5, "isNode", "(I)Z"⟩
abbrev cX5_isKey : ByteArray := prog_1_method_28_code
def yX5_isKey : MethodName := ⟨RX5, "isKey", "(I)Z"⟩
abbrev cX5_isSetting : ByteArray := prog_1_method_29_code
def yX5_isSetting : MethodName := ⟨RX5, "isSetting", "(I)Z"⟩
abbrev cX5_place : ByteArray := prog_1_method_30_code
def yX5_place : MethodName := ⟨RX5, "place", "(II)I"⟩
abbrev cX5_pairPlace : ByteArray := prog_1_method_31_code
def yX5_pairPlace : MethodName := ⟨RX5, "pairPlace", "(II)I"⟩
abbrev cX5_record : ByteArray := prog_1_method_32_code
def yX5_record : MethodName := ⟨RX5, "record", "()V"⟩
def RX6 : String := "KeyGravesModel"
def TX6 : u_T := fun k => match k with
  | _ => ("", "", "", false)
def tyX6 : Nat → FieldType := fun k => match k with
  | _ => .int
abbrev wsX60 : List Cond := u_ws RX6 TX6 0
theorem nmX6 : ∀ a, a < 0 → ∀ b, b < 0 → a ≠ b → (TX6 a).2.1 ≠ (TX6 b).2.1 := by decide +kernel
theorem tyX6_ok : ∀ k, k < 0 → parseFieldDescriptor (TX6 k).2.2.1 = some (tyX6 k) := by decide +kernel
def RJ9 : String := "java/lang/Math"
def TJ9 : u_T := fun k => match k with
  | _ => ("", "", "", false)
def tyJ9 : Nat → FieldType := fun k => match k with
  | _ => .int
abbrev wsJ90 : List Cond := u_ws RJ9 TJ9 0
theorem nmJ9 : ∀ a, a < 0 → ∀ b, b < 0 → a ≠ b → (TJ9 a).2.1 ≠ (TJ9 b).2.1 := by decide +kernel
theorem tyJ9_ok : ∀ k, k < 0 → parseFieldDescriptor (TJ9 k).2.2.1 = some (tyJ9 k) := by decide +kernel
abbrev cJ9_max_7cf53 : ByteArray := prog_9_method_65_code
def yJ9_max_7cf53 : MethodName := ⟨RJ9, "max", "(II)I"⟩
abbrev cJ9_min_7cf53 : ByteArray := prog_9_method_69_code
def yJ9_min_7cf53 : MethodName := ⟨RJ9, "min", "(II)I"⟩
def RJ10 : String := "java/lang/System"
def TJ10 : u_T := fun k => match k with
  | _ => ("", "", "", false)
def tyJ10 : Nat → FieldType := fun k => match k with
  | _ => .int
abbrev wsJ100 : List Cond := u_ws RJ10 TJ10 0
theorem nmJ10 : ∀ a, a < 0 → ∀ b, b < 0 → a ≠ b → (TJ10 a).2.1 ≠ (TJ10 b).2.1 := by decide +kernel
theorem tyJ10_ok : ∀ k, k < 0 → parseFieldDescriptor (TJ10 k).2.2.1 = some (tyJ10 k) := by decide +kernel
def RL : String := "KeyGravesLaw"
abbrev cL_cell : ByteArray := method_2_code
def yL_cell : MethodName := ⟨RL, "cell", "([II)I"⟩
abbrev cL_low : ByteArray := method_3_code
def yL_low : MethodName := ⟨RL, "low", "(II)I"⟩
abbrev cL_stamp : ByteArray := method_4_code
def yL_stamp : MethodName := ⟨RL, "stamp", "(LKeyGraves;II)I"⟩
abbrev cL_does : ByteArray := method_5_code
def yL_does : MethodName := ⟨RL, "does", "(LKeyGraves;[II)I"⟩
abbrev cL_areKnownSo : ByteArray := method_6_code
def yL_areKnownSo : MethodName := ⟨RL, "areKnownSo", "(LKeyGraves;[I)Z"⟩
abbrev cL_isRepairSo : ByteArray := method_7_code
def yL_isRepairSo : MethodName := ⟨RL, "isRepairSo", "(LKeyGraves;II)Z"⟩
abbrev cL_isGraceSo : ByteArray := method_8_code
def yL_isGraceSo : MethodName := ⟨RL, "isGraceSo", "(LKeyGraves;)Z"⟩
abbrev cL_isSlowestSo : ByteArray := method_9_code
def yL_isSlowestSo : MethodName := ⟨RL, "isSlowestSo", "(LKeyGraves;)Z"⟩
abbrev cL_law : ByteArray := code
def yL_law : MethodName := ⟨RL, "law", "([I)Z"⟩
def vwCl : List vw_C := [(RX0, TX0, 7), (RX1, TX1, 4), (RX2, TX2, 4), (RX3, TX3, 2), (RX4, TX4, 10), (RX5, TX5, 6)]
set_option maxRecDepth 100000 in
theorem kg_in0 : ∀ w ∈ wsX00, w ∈ lw_tbl := by decide +kernel
set_option maxRecDepth 100000 in
theorem kg_in1 : ∀ w ∈ wsX10, w ∈ lw_tbl := by decide +kernel
set_option maxRecDepth 100000 in
theorem kg_in2 : ∀ w ∈ wsX20, w ∈ lw_tbl := by decide +kernel
set_option maxRecDepth 100000 in
theorem kg_in3 : ∀ w ∈ wsX30, w ∈ lw_tbl := by decide +kernel
set_option maxRecDepth 100000 in
theorem kg_in4 : ∀ w ∈ wsX40, w ∈ lw_tbl := by decide +kernel
set_option maxRecDepth 100000 in
theorem kg_in5 : ∀ w ∈ wsX50, w ∈ lw_tbl := by decide +kernel
