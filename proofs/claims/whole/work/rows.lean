section
-- ===== PART A: goes FIRST, ahead of the names: the tables' words, and 'selects' of the private methods out of them =====
/-- a private method of a class that the tables say can be made, by its rows of tables_1 -/
def lw_okq (q : MethodName × Nat) : Prop := (q.1.cls ≠ "java/lang/invoke/MethodHandle" ∧ q.1.cls ≠ "java/lang/invoke/VarHandle") ∧ Cond.instantiable q.1.cls q.2 ∈ tables_1 ∧ Cond.privateMethod q.1 ∈ tables_1 ∧ Cond.instanceMethod q.1 ∈ tables_1
theorem lw_p0 : lw_okq (⟨"KeyGraves", "record", "()V"⟩, 6) := ⟨⟨by decide +kernel, by decide +kernel⟩, List.mem_of_getElem? (i := 11) (by decide +kernel), List.mem_of_getElem? (i := 202) (by decide +kernel), List.mem_of_getElem? (i := 203) (by decide +kernel)⟩
theorem lw_p1 : lw_okq (⟨"KeyGraves$State", "reach", "(II)V"⟩, 10) := ⟨⟨by decide +kernel, by decide +kernel⟩, List.mem_of_getElem? (i := 19) (by decide +kernel), List.mem_of_getElem? (i := 257) (by decide +kernel), List.mem_of_getElem? (i := 258) (by decide +kernel)⟩
theorem lw_p2 : lw_okq (⟨"KeyGraves$State", "stampOf", "(II)I"⟩, 10) := ⟨⟨by decide +kernel, by decide +kernel⟩, List.mem_of_getElem? (i := 19) (by decide +kernel), List.mem_of_getElem? (i := 273) (by decide +kernel), List.mem_of_getElem? (i := 274) (by decide +kernel)⟩
theorem lw_p3 : lw_okq (⟨"KeyGraves$State", "learn", "(III)V"⟩, 10) := ⟨⟨by decide +kernel, by decide +kernel⟩, List.mem_of_getElem? (i := 19) (by decide +kernel), List.mem_of_getElem? (i := 285) (by decide +kernel), List.mem_of_getElem? (i := 286) (by decide +kernel)⟩
theorem lw_p4 : lw_okq (⟨"KeyGraves$State", "logPair", "(III)V"⟩, 10) := ⟨⟨by decide +kernel, by decide +kernel⟩, List.mem_of_getElem? (i := 19) (by decide +kernel), List.mem_of_getElem? (i := 323) (by decide +kernel), List.mem_of_getElem? (i := 324) (by decide +kernel)⟩
theorem lw_p5 : lw_okq (⟨"KeyGraves$State", "isClearable", "(II)Z"⟩, 10) := ⟨⟨by decide +kernel, by decide +kernel⟩, List.mem_of_getElem? (i := 19) (by decide +kernel), List.mem_of_getElem? (i := 350) (by decide +kernel), List.mem_of_getElem? (i := 351) (by decide +kernel)⟩
theorem lw_p6 : lw_okq (⟨"KeyGraves$State", "ticksSince", "(II)I"⟩, 10) := ⟨⟨by decide +kernel, by decide +kernel⟩, List.mem_of_getElem? (i := 19) (by decide +kernel), List.mem_of_getElem? (i := 358) (by decide +kernel), List.mem_of_getElem? (i := 359) (by decide +kernel)⟩
theorem lw_p7 : lw_okq (⟨"KeyGraves$State", "isRepairedSince", "(II)Z"⟩, 10) := ⟨⟨by decide +kernel, by decide +kernel⟩, List.mem_of_getElem? (i := 19) (by decide +kernel), List.mem_of_getElem? (i := 362) (by decide +kernel), List.mem_of_getElem? (i := 363) (by decide +kernel)⟩
theorem lw_p8 : lw_okq (⟨"KeyGraves$State", "isUnsettledGrave", "(II)Z"⟩, 10) := ⟨⟨by decide +kernel, by decide +kernel⟩, List.mem_of_getElem? (i := 19) (by decide +kernel), List.mem_of_getElem? (i := 500) (by decide +kernel), List.mem_of_getElem? (i := 501) (by decide +kernel)⟩
theorem lw_p9 : lw_okq (⟨"KeyGraves$State", "lowerNodeKnowsSame", "(II)Z"⟩, 10) := ⟨⟨by decide +kernel, by decide +kernel⟩, List.mem_of_getElem? (i := 19) (by decide +kernel), List.mem_of_getElem? (i := 535) (by decide +kernel), List.mem_of_getElem? (i := 536) (by decide +kernel)⟩
theorem lw_p10 : lw_okq (⟨"KeyGravesModel", "know", "()V"⟩, 9) := ⟨⟨by decide +kernel, by decide +kernel⟩, List.mem_of_getElem? (i := 543) (by decide +kernel), List.mem_of_getElem? (i := 584) (by decide +kernel), List.mem_of_getElem? (i := 585) (by decide +kernel)⟩
theorem lw_p11 : lw_okq (⟨"KeyGravesModel", "manyUp", "()I"⟩, 9) := ⟨⟨by decide +kernel, by decide +kernel⟩, List.mem_of_getElem? (i := 543) (by decide +kernel), List.mem_of_getElem? (i := 595) (by decide +kernel), List.mem_of_getElem? (i := 596) (by decide +kernel)⟩
theorem lw_p12 : lw_okq (⟨"KeyGravesModel", "tells", "(IIII)I"⟩, 9) := ⟨⟨by decide +kernel, by decide +kernel⟩, List.mem_of_getElem? (i := 543) (by decide +kernel), List.mem_of_getElem? (i := 606) (by decide +kernel), List.mem_of_getElem? (i := 607) (by decide +kernel)⟩
theorem lw_p13 : lw_okq (⟨"KeyGravesModel", "reached", "(III)I"⟩, 9) := ⟨⟨by decide +kernel, by decide +kernel⟩, List.mem_of_getElem? (i := 543) (by decide +kernel), List.mem_of_getElem? (i := 613) (by decide +kernel), List.mem_of_getElem? (i := 614) (by decide +kernel)⟩
theorem lw_p14 : lw_okq (⟨"KeyGravesModel", "learn", "(III)V"⟩, 9) := ⟨⟨by decide +kernel, by decide +kernel⟩, List.mem_of_getElem? (i := 543) (by decide +kernel), List.mem_of_getElem? (i := 628) (by decide +kernel), List.mem_of_getElem? (i := 629) (by decide +kernel)⟩
theorem lw_p15 : lw_okq (⟨"KeyGravesModel", "isHaunted", "(II)Z"⟩, 9) := ⟨⟨by decide +kernel, by decide +kernel⟩, List.mem_of_getElem? (i := 543) (by decide +kernel), List.mem_of_getElem? (i := 632) (by decide +kernel), List.mem_of_getElem? (i := 633) (by decide +kernel)⟩
def lw_privs_1 : List (MethodName × Nat) := [(⟨"KeyGraves", "record", "()V"⟩, 6), (⟨"KeyGraves$State", "reach", "(II)V"⟩, 10), (⟨"KeyGraves$State", "stampOf", "(II)I"⟩, 10), (⟨"KeyGraves$State", "learn", "(III)V"⟩, 10), (⟨"KeyGraves$State", "logPair", "(III)V"⟩, 10), (⟨"KeyGraves$State", "isClearable", "(II)Z"⟩, 10), (⟨"KeyGraves$State", "ticksSince", "(II)I"⟩, 10), (⟨"KeyGraves$State", "isRepairedSince", "(II)Z"⟩, 10), (⟨"KeyGraves$State", "isUnsettledGrave", "(II)Z"⟩, 10), (⟨"KeyGraves$State", "lowerNodeKnowsSame", "(II)Z"⟩, 10), (⟨"KeyGravesModel", "know", "()V"⟩, 9), (⟨"KeyGravesModel", "manyUp", "()I"⟩, 9), (⟨"KeyGravesModel", "tells", "(IIII)I"⟩, 9), (⟨"KeyGravesModel", "reached", "(III)I"⟩, 9), (⟨"KeyGravesModel", "learn", "(III)V"⟩, 9), (⟨"KeyGravesModel", "isHaunted", "(II)Z"⟩, 9)]
theorem lw_r1 : ∀ q ∈ lw_privs_1, lw_okq q := List.forall_mem_cons.mpr ⟨lw_p0, List.forall_mem_cons.mpr ⟨lw_p1, List.forall_mem_cons.mpr ⟨lw_p2, List.forall_mem_cons.mpr ⟨lw_p3, List.forall_mem_cons.mpr ⟨lw_p4, List.forall_mem_cons.mpr ⟨lw_p5, List.forall_mem_cons.mpr ⟨lw_p6, List.forall_mem_cons.mpr ⟨lw_p7, List.forall_mem_cons.mpr ⟨lw_p8, List.forall_mem_cons.mpr ⟨lw_p9, List.forall_mem_cons.mpr ⟨lw_p10, List.forall_mem_cons.mpr ⟨lw_p11, List.forall_mem_cons.mpr ⟨lw_p12, List.forall_mem_cons.mpr ⟨lw_p13, List.forall_mem_cons.mpr ⟨lw_p14, List.forall_mem_cons.mpr ⟨lw_p15, fun _ h => absurd h List.not_mem_nil⟩⟩⟩⟩⟩⟩⟩⟩⟩⟩⟩⟩⟩⟩⟩⟩
theorem lw_p16 : lw_okq (⟨"KeyGravesModel", "note", "(III)V"⟩, 9) := ⟨⟨by decide +kernel, by decide +kernel⟩, List.mem_of_getElem? (i := 543) (by decide +kernel), List.mem_of_getElem? (i := 636) (by decide +kernel), List.mem_of_getElem? (i := 637) (by decide +kernel)⟩
theorem lw_p17 : lw_okq (⟨"KeyGravesModel", "repairs", "(II)I"⟩, 9) := ⟨⟨by decide +kernel, by decide +kernel⟩, List.mem_of_getElem? (i := 543) (by decide +kernel), List.mem_of_getElem? (i := 644) (by decide +kernel), List.mem_of_getElem? (i := 645) (by decide +kernel)⟩
theorem lw_p18 : lw_okq (⟨"KeyGravesModel", "differing", "(II)I"⟩, 9) := ⟨⟨by decide +kernel, by decide +kernel⟩, List.mem_of_getElem? (i := 543) (by decide +kernel), List.mem_of_getElem? (i := 648) (by decide +kernel), List.mem_of_getElem? (i := 649) (by decide +kernel)⟩
theorem lw_p19 : lw_okq (⟨"KeyGravesModel", "toClear", "(I)I"⟩, 9) := ⟨⟨by decide +kernel, by decide +kernel⟩, List.mem_of_getElem? (i := 543) (by decide +kernel), List.mem_of_getElem? (i := 656) (by decide +kernel), List.mem_of_getElem? (i := 657) (by decide +kernel)⟩
theorem lw_p20 : lw_okq (⟨"KeyGravesModel", "isCleared", "(II)Z"⟩, 9) := ⟨⟨by decide +kernel, by decide +kernel⟩, List.mem_of_getElem? (i := 543) (by decide +kernel), List.mem_of_getElem? (i := 660) (by decide +kernel), List.mem_of_getElem? (i := 661) (by decide +kernel)⟩
theorem lw_p21 : lw_okq (⟨"KeyGravesModel", "isRipe", "(II)Z"⟩, 9) := ⟨⟨by decide +kernel, by decide +kernel⟩, List.mem_of_getElem? (i := 543) (by decide +kernel), List.mem_of_getElem? (i := 664) (by decide +kernel), List.mem_of_getElem? (i := 665) (by decide +kernel)⟩
theorem lw_p22 : lw_okq (⟨"KeyGravesModel", "plans", "(III)I"⟩, 9) := ⟨⟨by decide +kernel, by decide +kernel⟩, List.mem_of_getElem? (i := 543) (by decide +kernel), List.mem_of_getElem? (i := 672) (by decide +kernel), List.mem_of_getElem? (i := 673) (by decide +kernel)⟩
theorem lw_p23 : lw_okq (⟨"KeyGravesModel", "go", "(Z)I"⟩, 9) := ⟨⟨by decide +kernel, by decide +kernel⟩, List.mem_of_getElem? (i := 543) (by decide +kernel), List.mem_of_getElem? (i := 680) (by decide +kernel), List.mem_of_getElem? (i := 681) (by decide +kernel)⟩
theorem lw_p24 : lw_okq (⟨"KeyGravesModel", "sign", "(II)I"⟩, 9) := ⟨⟨by decide +kernel, by decide +kernel⟩, List.mem_of_getElem? (i := 543) (by decide +kernel), List.mem_of_getElem? (i := 684) (by decide +kernel), List.mem_of_getElem? (i := 685) (by decide +kernel)⟩
theorem lw_p25 : lw_okq (⟨"KeyGravesModel", "number", "()I"⟩, 9) := ⟨⟨by decide +kernel, by decide +kernel⟩, List.mem_of_getElem? (i := 543) (by decide +kernel), List.mem_of_getElem? (i := 688) (by decide +kernel), List.mem_of_getElem? (i := 689) (by decide +kernel)⟩
theorem lw_p26 : lw_okq (⟨"KeyGravesModel", "isSettled", "(II)Z"⟩, 9) := ⟨⟨by decide +kernel, by decide +kernel⟩, List.mem_of_getElem? (i := 543) (by decide +kernel), List.mem_of_getElem? (i := 725) (by decide +kernel), List.mem_of_getElem? (i := 726) (by decide +kernel)⟩
theorem lw_p27 : lw_okq (⟨"KeyGravesModel", "keysOf", "(II)I"⟩, 9) := ⟨⟨by decide +kernel, by decide +kernel⟩, List.mem_of_getElem? (i := 543) (by decide +kernel), List.mem_of_getElem? (i := 733) (by decide +kernel), List.mem_of_getElem? (i := 734) (by decide +kernel)⟩
theorem lw_p28 : lw_okq (⟨"KeyGravesModel", "isOpen", "(II)Z"⟩, 9) := ⟨⟨by decide +kernel, by decide +kernel⟩, List.mem_of_getElem? (i := 543) (by decide +kernel), List.mem_of_getElem? (i := 749) (by decide +kernel), List.mem_of_getElem? (i := 750) (by decide +kernel)⟩
theorem lw_p29 : lw_okq (⟨"KeyGravesModel", "graves", "()I"⟩, 9) := ⟨⟨by decide +kernel, by decide +kernel⟩, List.mem_of_getElem? (i := 543) (by decide +kernel), List.mem_of_getElem? (i := 765) (by decide +kernel), List.mem_of_getElem? (i := 766) (by decide +kernel)⟩
theorem lw_p30 : lw_okq (⟨"KeyGravesModel", "haunting", "()I"⟩, 9) := ⟨⟨by decide +kernel, by decide +kernel⟩, List.mem_of_getElem? (i := 543) (by decide +kernel), List.mem_of_getElem? (i := 769) (by decide +kernel), List.mem_of_getElem? (i := 770) (by decide +kernel)⟩
theorem lw_p31 : lw_okq (⟨"KeyGravesModel", "openGraves", "()I"⟩, 9) := ⟨⟨by decide +kernel, by decide +kernel⟩, List.mem_of_getElem? (i := 543) (by decide +kernel), List.mem_of_getElem? (i := 774) (by decide +kernel), List.mem_of_getElem? (i := 775) (by decide +kernel)⟩
def lw_privs_2 : List (MethodName × Nat) := [(⟨"KeyGravesModel", "note", "(III)V"⟩, 9), (⟨"KeyGravesModel", "repairs", "(II)I"⟩, 9), (⟨"KeyGravesModel", "differing", "(II)I"⟩, 9), (⟨"KeyGravesModel", "toClear", "(I)I"⟩, 9), (⟨"KeyGravesModel", "isCleared", "(II)Z"⟩, 9), (⟨"KeyGravesModel", "isRipe", "(II)Z"⟩, 9), (⟨"KeyGravesModel", "plans", "(III)I"⟩, 9), (⟨"KeyGravesModel", "go", "(Z)I"⟩, 9), (⟨"KeyGravesModel", "sign", "(II)I"⟩, 9), (⟨"KeyGravesModel", "number", "()I"⟩, 9), (⟨"KeyGravesModel", "isSettled", "(II)Z"⟩, 9), (⟨"KeyGravesModel", "keysOf", "(II)I"⟩, 9), (⟨"KeyGravesModel", "isOpen", "(II)Z"⟩, 9), (⟨"KeyGravesModel", "graves", "()I"⟩, 9), (⟨"KeyGravesModel", "haunting", "()I"⟩, 9), (⟨"KeyGravesModel", "openGraves", "()I"⟩, 9)]
theorem lw_r2 : ∀ q ∈ lw_privs_2, lw_okq q := List.forall_mem_cons.mpr ⟨lw_p16, List.forall_mem_cons.mpr ⟨lw_p17, List.forall_mem_cons.mpr ⟨lw_p18, List.forall_mem_cons.mpr ⟨lw_p19, List.forall_mem_cons.mpr ⟨lw_p20, List.forall_mem_cons.mpr ⟨lw_p21, List.forall_mem_cons.mpr ⟨lw_p22, List.forall_mem_cons.mpr ⟨lw_p23, List.forall_mem_cons.mpr ⟨lw_p24, List.forall_mem_cons.mpr ⟨lw_p25, List.forall_mem_cons.mpr ⟨lw_p26, List.forall_mem_cons.mpr ⟨lw_p27, List.forall_mem_cons.mpr ⟨lw_p28, List.forall_mem_cons.mpr ⟨lw_p29, List.forall_mem_cons.mpr ⟨lw_p30, List.forall_mem_cons.mpr ⟨lw_p31, fun _ h => absurd h List.not_mem_nil⟩⟩⟩⟩⟩⟩⟩⟩⟩⟩⟩⟩⟩⟩⟩⟩
def lw_privs : List (MethodName × Nat) := lw_privs_1 ++ (lw_privs_2)
def lw_tbl : List Cond := k2_sels lw_privs ++ tables_1
theorem lw_privs_ok : ∀ q ∈ lw_privs, lw_okq q := by
  show ∀ q ∈ lw_privs_1 ++ (lw_privs_2), lw_okq q
  exact List.forall_mem_append.mpr ⟨lw_r1, lw_r2⟩
def RX0 : String := "KeyGraves$EventLog"
def TX0 : u_T := fun k => match k with
  | 0 => ("KeyGraves$EventLog", "size", "I", false)
  | 1 => ("KeyGraves$EventLog", "newest", "I", false)
  | 2 => ("KeyGraves$EventLog", "counts", "[I", true)
  | 3 => ("KeyGraves$EventLog", "kinds", "[I", true)
  | 4 => ("KeyGraves$EventLog", "ticks", "[I", true)
  | 5 => ("KeyGraves$EventLog", "firsts", "[I", true)
  | _ => ("KeyGraves$EventLog", "seconds", "[I", true)
def tyX0 : Nat → FieldType := fun k => match k with
  | 0 => .int
  | 1 => .int
  | 2 => .array .int
  | 3 => .array .int
  | 4 => .array .int
  | 5 => .array .int
  | _ => .array .int
abbrev wsX00 : List Cond := u_ws RX0 TX0 7
theorem nmX0 : ∀ a, a < 7 → ∀ b, b < 7 → a ≠ b → (TX0 a).2.1 ≠ (TX0 b).2.1 := by decide +kernel
theorem tyX0_ok : ∀ k, k < 7 → parseFieldDescriptor (TX0 k).2.2.1 = some (tyX0 k) := by decide +kernel
abbrev cX0_init : ByteArray := prog_2_method_1_code
def yX0_init : MethodName := ⟨RX0, "<init>", "()V"⟩
abbrev cX0_copyFrom : ByteArray := prog_2_method_2_code
def yX0_copyFrom : MethodName := ⟨RX0, "copyFrom", "(LKeyGraves$EventLog;)V"⟩
abbrev cX0_add : ByteArray := prog_2_method_3_code
def yX0_add : MethodName := ⟨RX0, "add", "(IIII)V"⟩
abbrev cX0_placeOf : ByteArray := prog_2_method_4_code
def yX0_placeOf : MethodName := ⟨RX0, "placeOf", "(I)I"⟩
def RX1 : String := "KeyGraves$Facts"
def TX1 : u_T := fun k => match k with
  | 0 => ("KeyGraves$Facts", "stamps", "[I", true)
  | 1 => ("KeyGraves$Facts", "contents", "[I", true)
  | 2 => ("KeyGraves$Facts", "ticks", "[I", true)
  | _ => ("KeyGraves$Facts", "learned", "[I", true)
def tyX1 : Nat → FieldType := fun k => match k with
  | 0 => .array .int
  | 1 => .array .int
  | 2 => .array .int
  | _ => .array .int
abbrev wsX10 : List Cond := u_ws RX1 TX1 4
theorem nmX1 : ∀ a, a < 4 → ∀ b, b < 4 → a ≠ b → (TX1 a).2.1 ≠ (TX1 b).2.1 := by decide +kernel
theorem tyX1_ok : ∀ k, k < 4 → parseFieldDescriptor (TX1 k).2.2.1 = some (tyX1 k) := by decide +kernel
abbrev cX1_init : ByteArray := prog_3_method_1_code
def yX1_init : MethodName := ⟨RX1, "<init>", "()V"⟩
abbrev cX1_copyFrom : ByteArray := prog_3_method_2_code
def yX1_copyFrom : MethodName := ⟨RX1, "copyFrom", "(LKeyGraves$Facts;)V"⟩
abbrev cX1_kindAt : ByteArray := prog_3_method_3_code
def yX1_kindAt : MethodName := ⟨RX1, "kindAt", "(I)I"⟩
abbrev cX1_valueAt : ByteArray := prog_3_method_4_code
def yX1_valueAt : MethodName := ⟨RX1, "valueAt", "(I)I"⟩
abbrev cX1_put : ByteArray := prog_3_method_5_code
def yX1_put : MethodName := ⟨RX1, "put", "(IIII)V"⟩
abbrev cX1_take : ByteArray := prog_3_method_6_code
def yX1_take : MethodName := ⟨RX1, "take", "(III)V"⟩
abbrev cX1_forget : ByteArray := prog_3_method_7_code
def yX1_forget : MethodName := ⟨RX1, "forget", "(I)V"⟩
def RX2 : String := "KeyGraves$Plan"
def TX2 : u_T := fun k => match k with
  | 0 => ("KeyGraves$Plan", "size", "I", false)
  | 1 => ("KeyGraves$Plan", "ones", "[I", true)
  | 2 => ("KeyGraves$Plan", "others", "[I", true)
  | _ => ("KeyGraves$Plan", "ticks", "[I", true)
def tyX2 : Nat → FieldType := fun k => match k with
  | 0 => .int
  | 1 => .array .int
  | 2 => .array .int
  | _ => .array .int
abbrev wsX20 : List Cond := u_ws RX2 TX2 4
theorem nmX2 : ∀ a, a < 4 → ∀ b, b < 4 → a ≠ b → (TX2 a).2.1 ≠ (TX2 b).2.1 := by decide +kernel
theorem tyX2_ok : ∀ k, k < 4 → parseFieldDescriptor (TX2 k).2.2.1 = some (tyX2 k) := by decide +kernel
abbrev cX2_init : ByteArray := prog_4_method_1_code
def yX2_init : MethodName := ⟨RX2, "<init>", "()V"⟩
abbrev cX2_copyFrom : ByteArray := prog_4_method_2_code
def yX2_copyFrom : MethodName := ⟨RX2, "copyFrom", "(LKeyGraves$Plan;)V"⟩
abbrev cX2_add : ByteArray := prog_4_method_3_code
def yX2_add : MethodName := ⟨RX2, "add", "(III)V"⟩
def RX3 : String := "KeyGraves$PlanText"
def TX3 : u_T := fun k => match k with
  | 0 => ("KeyGraves$PlanText", "signs", "[C", true)
  | _ => ("KeyGraves$PlanText", "length", "I", false)
def tyX3 : Nat → FieldType := fun k => match k with
  | 0 => .array .char
  | _ => .int
abbrev wsX30 : List Cond := u_ws RX3 TX3 2
theorem nmX3 : ∀ a, a < 2 → ∀ b, b < 2 → a ≠ b → (TX3 a).2.1 ≠ (TX3 b).2.1 := by decide +kernel
theorem tyX3_ok : ∀ k, k < 2 → parseFieldDescriptor (TX3 k).2.2.1 = some (tyX3 k) := by decide +kernel
abbrev cX3_init : ByteArray := prog_5_method_1_code
def yX3_init : MethodName := ⟨RX3, "<init>", "()V"⟩
abbrev cX3_fault : ByteArray := prog_5_method_2_code
def yX3_fault : MethodName := ⟨RX3, "fault", "()I"⟩
abbrev cX3_repairs : ByteArray := prog_5_method_3_code
def yX3_repairs : MethodName := ⟨RX3, "repairs", "()I"⟩
abbrev cX3_fill : ByteArray := prog_5_method_4_code
def yX3_fill : MethodName := ⟨RX3, "fill", "(LKeyGraves$Plan;)V"⟩
abbrev cX3_placeBehind : ByteArray := prog_5_method_5_code
def yX3_placeBehind : MethodName := ⟨RX3, "placeBehind", "(ICC)I"⟩
abbrev cX3_isNodeSign : ByteArray := prog_5_method_6_code
def yX3_isNodeSign : MethodName := ⟨RX3, "isNodeSign", "(C)Z"⟩
abbrev cX3_isDigit : ByteArray := prog_5_method_7_code
def yX3_isDigit : MethodName := ⟨RX3, "isDigit", "(C)Z"⟩
def RX4 : String := "KeyGraves$State"
def TX4 : u_T := fun k => match k with
  | 0 => ("KeyGraves$State", "tick", "I", false)
  | 1 => ("KeyGraves$State", "stampsGiven", "I", false)
  | 2 => ("KeyGraves$State", "settings", "[I", true)
  | 3 => ("KeyGraves$State", "up", "[Z", true)
  | 4 => ("KeyGraves$State", "facts", "LKeyGraves$Facts;", true)
  | 5 => ("KeyGraves$State", "lastRepairs", "[I", true)
  | 6 => ("KeyGraves$State", "plan", "LKeyGraves$Plan;", true)
  | 7 => ("KeyGraves$State", "log", "LKeyGraves$EventLog;", true)
  | 8 => ("KeyGraves$State", "reached", "[I", true)
  | _ => ("KeyGraves$State", "reachedCount", "I", false)
def tyX4 : Nat → FieldType := fun k => match k with
  | 0 => .int
  | 1 => .int
  | 2 => .array .int
  | 3 => .array .boolean
  | 4 => .object "KeyGraves$Facts"
  | 5 => .array .int
  | 6 => .object "KeyGraves$Plan"
  | 7 => .object "KeyGraves$EventLog"
  | 8 => .array .int
  | _ => .int
abbrev wsX40 : List Cond := u_ws RX4 TX4 10
theorem nmX4 : ∀ a, a < 10 → ∀ b, b < 10 → a ≠ b → (TX4 a).2.1 ≠ (TX4 b).2.1 := by decide +kernel
theorem tyX4_ok : ∀ k, k < 10 → parseFieldDescriptor (TX4 k).2.2.1 = some (tyX4 k) := by decide +kernel
abbrev cX4_init : ByteArray := prog_6_method_1_code
def yX4_init : MethodName := ⟨RX4, "<init>", "()V"⟩
abbrev cX4_copyFrom : ByteArray := prog_6_method_2_code
def yX4_copyFrom : MethodName := ⟨RX4, "copyFrom", "(LKeyGraves$State;)V"⟩
abbrev cX4_reach : ByteArray := prog_6_method_3_code
def yX4_reach : MethodName := ⟨RX4, "reach", "(II)V"⟩
abbrev cX4_spread : ByteArray := prog_6_method_4_code
def yX4_spread : MethodName := ⟨RX4, "spread", "(III)I"⟩
abbrev cX4_newestReached : ByteArray := prog_6_method_5_code
def yX4_newestReached : MethodName := ⟨RX4, "newestReached", "(II)I"⟩
abbrev cX4_reachedDiffer : ByteArray := prog_6_method_6_code
def yX4_reachedDiffer : MethodName := ⟨RX4, "reachedDiffer", "(II)Z"⟩
abbrev cX4_mend : ByteArray := prog_6_method_7_code
def yX4_mend : MethodName := ⟨RX4, "mend", "(II)V"⟩
abbrev cX4_stampOf : ByteArray := prog_6_method_8_code
def yX4_stampOf : MethodName := ⟨RX4, "stampOf", "(II)I"⟩
abbrev cX4_learn : ByteArray := prog_6_method_9_code
def yX4_learn : MethodName := ⟨RX4, "learn", "(III)V"⟩
abbrev cX4_join : ByteArray := prog_6_method_10_code
def yX4_join : MethodName := ⟨RX4, "join", "(II)I"⟩
abbrev cX4_logPair : ByteArray := prog_6_method_11_code
def yX4_logPair : MethodName := ⟨RX4, "logPair", "(III)V"⟩
abbrev cX4_keysKnownOtherwise : ByteArray := prog_6_method_12_code
def yX4_keysKnownOtherwise : MethodName := ⟨RX4, "keysKnownOtherwise", "(II)I"⟩
abbrev cX4_passTick : ByteArray := prog_6_method_13_code
def yX4_passTick : MethodName := ⟨RX4, "passTick", "()I"⟩
abbrev cX4_slowestPair : ByteArray := prog_6_method_14_code
def yX4_slowestPair : MethodName := ⟨RX4, "slowestPair", "()I"⟩
abbrev cX4_isGrave : ByteArray := prog_6_method_15_code
def yX4_isGrave : MethodName := ⟨RX4, "isGrave", "(II)Z"⟩
abbrev cX4_ticksSince : ByteArray := prog_6_method_16_code
def yX4_ticksSince : MethodName := ⟨RX4, "ticksSince", "(II)I"⟩
abbrev cX4_isRipe : ByteArray := prog_6_method_17_code
def yX4_isRipe : MethodName := ⟨RX4, "isRipe", "(II)Z"⟩
abbrev cX4_isClearable : ByteArray := prog_6_method_18_code
def yX4_isClearable : MethodName := ⟨RX4, "isClearable", "(II)Z"⟩
abbrev cX4_isRepairedSince : ByteArray := prog_6_method_19_code
def yX4_isRepairedSince : MethodName := ⟨RX4, "isRepairedSince", "(II)Z"⟩
abbrev cX4_clearableGraves : ByteArray := prog_6_method_20_code
def yX4_clearableGraves : MethodName := ⟨RX4, "clearableGraves", "(I)I"⟩
abbrev cX4_clearGraves : ByteArray := prog_6_method_21_code
def yX4_clearGraves : MethodName := ⟨RX4, "clearGraves", "(I)I"⟩
abbrev cX4_isSettledGrave : ByteArray := prog_6_method_22_code
def yX4_isSettledGrave : MethodName := ⟨RX4, "isSettledGrave", "(II)Z"⟩
abbrev cX4_isUnsettledGrave : ByteArray := prog_6_method_23_code
def yX4_isUnsettledGrave : MethodName := ⟨RX4, "isUnsettledGrave", "(II)Z"⟩
abbrev cX4_gravesNotSettled : ByteArray := prog_6_method_24_code
def yX4_gravesNotSettled : MethodName := ⟨RX4, "gravesNotSettled", "()I"⟩
abbrev cX4_lowerNodeKnowsSame : ByteArray := prog_6_method_25_code
def yX4_lowerNodeKnowsSame : MethodName := ⟨RX4, "lowerNodeKnowsSame", "(II)Z"⟩
abbrev cX4_safeGrace : ByteArray := prog_6_method_26_code
def yX4_safeGrace : MethodName := ⟨RX4, "safeGrace", "()I"⟩
abbrev cX4_isHaunted : ByteArray := prog_6_method_27_code
def yX4_isHaunted : MethodName := ⟨RX4, "isHaunted", "(II)Z"⟩
abbrev cX4_nodesUp : ByteArray := prog_6_method_28_code
def yX4_nodesUp : MethodName := ⟨RX4, "nodesUp", "()I"⟩
abbrev cX4_nodesWithTruth : ByteArray := prog_6_method_29_code
def yX4_nodesWithTruth : MethodName := ⟨RX4, "nodesWithTruth", "(I)I"⟩
abbrev cX4_nodesHauntedBy : ByteArray := prog_6_method_30_code
def yX4_nodesHauntedBy : MethodName := ⟨RX4, "nodesHauntedBy", "(I)I"⟩
abbrev cX4_keysThatHaunt : ByteArray := prog_6_method_31_code
def yX4_keysThatHaunt : MethodName := ⟨RX4, "keysThatHaunt", "(I)I"⟩
abbrev cX4_hauntingKeys : ByteArray := prog_6_method_32_code
def yX4_hauntingKeys : MethodName := ⟨RX4, "hauntingKeys", "()I"⟩
abbrev cX4_keysOfKind : ByteArray := prog_6_method_33_code
def yX4_keysOfKind : MethodName := ⟨RX4, "keysOfKind", "(II)I"⟩
abbrev cX4_ripeGraves : ByteArray := prog_6_method_34_code
def yX4_ripeGraves : MethodName := ⟨RX4, "ripeGraves", "(I)I"⟩
abbrev cX4_gravesOfAllNodes : ByteArray := prog_6_method_35_code
def yX4_gravesOfAllNodes : MethodName := ⟨RX4, "gravesOfAllNodes", "()I"⟩
def RX5 : String := "KeyGraves"
def TX5 : u_T := fun k => match k with
  | 0 => ("KeyGraves", "state", "LKeyGraves$State;", true)
  | 1 => ("KeyGraves", "history", "[LKeyGraves$State;", true)
  | 2 => ("KeyGraves", "historySize", "I", false)
  | 3 => ("KeyGraves", "snapshot", "LKeyGraves$State;", true)
  | 4 => ("KeyGraves", "snapshotTaken", "Z", false)
  | _ => ("KeyGraves", "text", "LKeyGraves$PlanText;", true)
def tyX5 : Nat → FieldType := fun k => match k with
  | 0 => .object "KeyGraves$State"
  | 1 => .array (.object "KeyGraves$State")
  | 2 => .int
  | 3 => .object "KeyGraves$State"
  | 4 => .boolean
  | _ => .object "KeyGraves$PlanText"
abbrev wsX50 : List Cond := u_ws RX5 TX5 6
theorem nmX5 : ∀ a, a < 6 → ∀ b, b < 6 → a ≠ b → (TX5 a).2.1 ≠ (TX5 b).2.1 := by decide +kernel
theorem tyX5_ok : ∀ k, k < 6 → parseFieldDescriptor (TX5 k).2.2.1 = some (tyX5 k) := by decide +kernel
abbrev cX5_init : ByteArray := prog_1_method_1_code
def yX5_init : MethodName := ⟨RX5, "<init>", "()V"⟩
abbrev cX5_set : ByteArray := prog_1_method_2_code
def yX5_set : MethodName := ⟨RX5, "set", "(II)I"⟩
abbrev cX5_setUp : ByteArray := prog_1_method_3_code
def yX5_setUp : MethodName := ⟨RX5, "setUp", "(IZ)I"⟩
abbrev cX5_write : ByteArray := prog_1_method_4_code
def yX5_write : MethodName := ⟨RX5, "write", "(III)I"⟩
abbrev cX5_delete : ByteArray := prog_1_method_5_code
def yX5_delete : MethodName := ⟨RX5, "delete", "(II)I"⟩
abbrev cX5_read : ByteArray := prog_1_method_6_code
def yX5_read : MethodName := ⟨RX5, "read", "(II)I"⟩
abbrev cX5_repair : ByteArray := prog_1_method_7_code
def yX5_repair : MethodName := ⟨RX5, "repair", "(II)I"⟩
abbrev cX5_clear : ByteArray := prog_1_method_8_code
def yX5_clear : MethodName := ⟨RX5, "clear", "(I)I"⟩
abbrev cX5_plan : ByteArray := prog_1_method_9_code
def yX5_plan : MethodName := ⟨RX5, "plan", "(III)I"⟩
abbrev cX5_readPlan : ByteArray := prog_1_method_10_code
def yX5_readPlan : MethodName := ⟨RX5, "readPlan", "()I"⟩
abbrev cX5_pass : ByteArray := prog_1_method_11_code
def yX5_pass : MethodName := ⟨RX5, "pass", "(I)I"⟩
abbrev cX5_type : ByteArray := prog_1_method_12_code
def yX5_type : MethodName := ⟨RX5, "type", "(C)I"⟩
abbrev cX5_clearText : ByteArray := prog_1_method_13_code
def yX5_clearText : MethodName := ⟨RX5, "clearText", "()I"⟩
abbrev cX5_undo : ByteArray := prog_1_method_14_code
def yX5_undo : MethodName := ⟨RX5, "undo", "()I"⟩
abbrev cX5_keep : ByteArray := prog_1_method_15_code
def yX5_keep : MethodName := ⟨RX5, "keep", "()I"⟩
abbrev cX5_restore : ByteArray := prog_1_method_16_code
def yX5_restore : MethodName := ⟨RX5, "restore", "()I"⟩
abbrev cX5_known : ByteArray := prog_1_method_17_code
def yX5_known : MethodName := ⟨RX5, "known", "(III)I"⟩
abbrev cX5_truth : ByteArray := prog_1_method_18_code
def yX5_truth : MethodName := ⟨RX5, "truth", "(II)I"⟩
abbrev cX5_node : ByteArray := prog_1_method_19_code
def yX5_node : MethodName := ⟨RX5, "node", "(II)I"⟩
abbrev cX5_pair : ByteArray := prog_1_method_20_code
def yX5_pair : MethodName := ⟨RX5, "pair", "(III)I"⟩
abbrev cX5_slowest : ByteArray := prog_1_method_21_code
def yX5_slowest : MethodName := ⟨RX5, "slowest", "()I"⟩
abbrev cX5_graceNeeded : ByteArray := prog_1_method_22_code
def yX5_graceNeeded : MethodName := ⟨RX5, "graceNeeded", "()I"⟩
abbrev cX5_event : ByteArray := prog_1_method_23_code
def yX5_event : MethodName := ⟨RX5, "event", "(II)I"⟩
abbrev cX5_planned : ByteArray := prog_1_method_24_code
def yX5_planned : MethodName := ⟨RX5, "planned", "(II)I"⟩
abbrev cX5_count : ByteArray := prog_1_method_25_code
def yX5_count : MethodName := ⟨RX5, "count", "(I)I"⟩
abbrev cX5_setting : ByteArray := prog_1_method_26_code
def yX5_setting : MethodName := ⟨RX5, "setting", "(I)I"⟩
abbrev cX5_isNode : ByteArray := prog_1_method_27_code
def yX5_isNode : MethodName := ⟨RX5, "isNode", "(I)Z"⟩
abbrev cX5_isKey : ByteArray := prog_1_method_28_code
def yX5_isKey : MethodName := ⟨RX5, "isKey", "(I)Z"⟩
abbrev cX5_isSetting : ByteArray := prog_1_method_29_code
def yX5_isSetting : MethodName := ⟨RX5, "isSetting", "(I)Z"⟩
abbrev cX5_place : ByteArray := prog_1_method_30_code
def yX5_place : MethodName := ⟨RX5, "place", "(II)I"⟩
abbrev cX5_pairPlace : ByteArray := prog_1_method_31_code
def yX5_pairPlace : MethodName := ⟨RX5, "pairPlace", "(II)I"⟩
abbrev cX5_record : ByteArray := prog_1_method_32_code
def yX5_record : MethodName := ⟨RX5, "record", "()V"⟩
def RX6 : String := "KeyGravesModel"
def TX6 : u_T := fun k => match k with
  | 0 => ("KeyGravesModel", "s", "[I", true)
  | 1 => ("KeyGravesModel", "before", "[I", true)
  | 2 => ("KeyGravesModel", "known", "I", false)
  | 3 => ("KeyGravesModel", "kept", "[I", true)
  | 4 => ("KeyGravesModel", "isKept", "Z", false)
  | 5 => ("KeyGravesModel", "text", "[I", true)
  | 6 => ("KeyGravesModel", "typed", "I", false)
  | 7 => ("KeyGravesModel", "at", "I", false)
  | _ => ("KeyGravesModel", "isWrong", "Z", false)
def tyX6 : Nat → FieldType := fun k => match k with
  | 0 => .array .int
  | 1 => .array .int
  | 2 => .int
  | 3 => .array .int
  | 4 => .boolean
  | 5 => .array .int
  | 6 => .int
  | 7 => .int
  | _ => .boolean
abbrev wsX60 : List Cond := u_ws RX6 TX6 9
theorem nmX6 : ∀ a, a < 9 → ∀ b, b < 9 → a ≠ b → (TX6 a).2.1 ≠ (TX6 b).2.1 := by decide +kernel
theorem tyX6_ok : ∀ k, k < 9 → parseFieldDescriptor (TX6 k).2.2.1 = some (tyX6 k) := by decide +kernel
abbrev cX6_init : ByteArray := prog_8_method_1_code
def yX6_init : MethodName := ⟨RX6, "<init>", "()V"⟩
abbrev cX6_in : ByteArray := prog_8_method_3_code
def yX6_in : MethodName := ⟨RX6, "in", "(III)Z"⟩
abbrev cX6_isNode : ByteArray := prog_8_method_4_code
def yX6_isNode : MethodName := ⟨RX6, "isNode", "(I)Z"⟩
abbrev cX6_isKey : ByteArray := prog_8_method_5_code
def yX6_isKey : MethodName := ⟨RX6, "isKey", "(I)Z"⟩
abbrev cX6_of : ByteArray := prog_8_method_6_code
def yX6_of : MethodName := ⟨RX6, "of", "(III)I"⟩
abbrev cX6_truthOf : ByteArray := prog_8_method_7_code
def yX6_truthOf : MethodName := ⟨RX6, "truthOf", "(II)I"⟩
abbrev cX6_know : ByteArray := prog_8_method_8_code
def yX6_know : MethodName := ⟨RX6, "know", "()V"⟩
abbrev cX6_set : ByteArray := prog_8_method_9_code
def yX6_set : MethodName := ⟨RX6, "set", "(II)I"⟩
abbrev cX6_manyUp : ByteArray := prog_8_method_10_code
def yX6_manyUp : MethodName := ⟨RX6, "manyUp", "()I"⟩
abbrev cX6_setUp : ByteArray := prog_8_method_11_code
def yX6_setUp : MethodName := ⟨RX6, "setUp", "(IZ)I"⟩
abbrev cX6_note : ByteArray := prog_8_method_12_code
def yX6_note : MethodName := ⟨RX6, "note", "(III)V"⟩
abbrev cX6_isHaunted : ByteArray := prog_8_method_13_code
def yX6_isHaunted : MethodName := ⟨RX6, "isHaunted", "(II)Z"⟩
abbrev cX6_learn : ByteArray := prog_8_method_14_code
def yX6_learn : MethodName := ⟨RX6, "learn", "(III)V"⟩
abbrev cX6_reached : ByteArray := prog_8_method_15_code
def yX6_reached : MethodName := ⟨RX6, "reached", "(III)I"⟩
abbrev cX6_tells : ByteArray := prog_8_method_16_code
def yX6_tells : MethodName := ⟨RX6, "tells", "(IIII)I"⟩
abbrev cX6_write : ByteArray := prog_8_method_17_code
def yX6_write : MethodName := ⟨RX6, "write", "(III)I"⟩
abbrev cX6_delete : ByteArray := prog_8_method_18_code
def yX6_delete : MethodName := ⟨RX6, "delete", "(II)I"⟩
abbrev cX6_read : ByteArray := prog_8_method_19_code
def yX6_read : MethodName := ⟨RX6, "read", "(II)I"⟩
abbrev cX6_differing : ByteArray := prog_8_method_20_code
def yX6_differing : MethodName := ⟨RX6, "differing", "(II)I"⟩
abbrev cX6_repairs : ByteArray := prog_8_method_21_code
def yX6_repairs : MethodName := ⟨RX6, "repairs", "(II)I"⟩
abbrev cX6_repair : ByteArray := prog_8_method_22_code
def yX6_repair : MethodName := ⟨RX6, "repair", "(II)I"⟩
abbrev cX6_isRipe : ByteArray := prog_8_method_23_code
def yX6_isRipe : MethodName := ⟨RX6, "isRipe", "(II)Z"⟩
abbrev cX6_isCleared : ByteArray := prog_8_method_24_code
def yX6_isCleared : MethodName := ⟨RX6, "isCleared", "(II)Z"⟩
abbrev cX6_toClear : ByteArray := prog_8_method_25_code
def yX6_toClear : MethodName := ⟨RX6, "toClear", "(I)I"⟩
abbrev cX6_clear : ByteArray := prog_8_method_26_code
def yX6_clear : MethodName := ⟨RX6, "clear", "(I)I"⟩
abbrev cX6_plans : ByteArray := prog_8_method_27_code
def yX6_plans : MethodName := ⟨RX6, "plans", "(III)I"⟩
abbrev cX6_plan : ByteArray := prog_8_method_28_code
def yX6_plan : MethodName := ⟨RX6, "plan", "(III)I"⟩
abbrev cX6_sign : ByteArray := prog_8_method_29_code
def yX6_sign : MethodName := ⟨RX6, "sign", "(II)I"⟩
abbrev cX6_number : ByteArray := prog_8_method_30_code
def yX6_number : MethodName := ⟨RX6, "number", "()I"⟩
abbrev cX6_go : ByteArray := prog_8_method_31_code
def yX6_go : MethodName := ⟨RX6, "go", "(Z)I"⟩
abbrev cX6_readPlan : ByteArray := prog_8_method_32_code
def yX6_readPlan : MethodName := ⟨RX6, "readPlan", "()I"⟩
abbrev cX6_pass : ByteArray := prog_8_method_33_code
def yX6_pass : MethodName := ⟨RX6, "pass", "(I)I"⟩
abbrev cX6_type : ByteArray := prog_8_method_34_code
def yX6_type : MethodName := ⟨RX6, "type", "(C)I"⟩
abbrev cX6_clearText : ByteArray := prog_8_method_35_code
def yX6_clearText : MethodName := ⟨RX6, "clearText", "()I"⟩
abbrev cX6_undo : ByteArray := prog_8_method_36_code
def yX6_undo : MethodName := ⟨RX6, "undo", "()I"⟩
abbrev cX6_keep : ByteArray := prog_8_method_37_code
def yX6_keep : MethodName := ⟨RX6, "keep", "()I"⟩
abbrev cX6_restore : ByteArray := prog_8_method_38_code
def yX6_restore : MethodName := ⟨RX6, "restore", "()I"⟩
abbrev cX6_known : ByteArray := prog_8_method_39_code
def yX6_known : MethodName := ⟨RX6, "known", "(III)I"⟩
abbrev cX6_isSettled : ByteArray := prog_8_method_40_code
def yX6_isSettled : MethodName := ⟨RX6, "isSettled", "(II)Z"⟩
abbrev cX6_truth : ByteArray := prog_8_method_41_code
def yX6_truth : MethodName := ⟨RX6, "truth", "(II)I"⟩
abbrev cX6_keysOf : ByteArray := prog_8_method_42_code
def yX6_keysOf : MethodName := ⟨RX6, "keysOf", "(II)I"⟩
abbrev cX6_node : ByteArray := prog_8_method_43_code
def yX6_node : MethodName := ⟨RX6, "node", "(II)I"⟩
abbrev cX6_pair : ByteArray := prog_8_method_44_code
def yX6_pair : MethodName := ⟨RX6, "pair", "(III)I"⟩
abbrev cX6_slowest : ByteArray := prog_8_method_45_code
def yX6_slowest : MethodName := ⟨RX6, "slowest", "()I"⟩
abbrev cX6_isOpen : ByteArray := prog_8_method_46_code
def yX6_isOpen : MethodName := ⟨RX6, "isOpen", "(II)Z"⟩
abbrev cX6_graceNeeded : ByteArray := prog_8_method_47_code
def yX6_graceNeeded : MethodName := ⟨RX6, "graceNeeded", "()I"⟩
abbrev cX6_event : ByteArray := prog_8_method_48_code
def yX6_event : MethodName := ⟨RX6, "event", "(II)I"⟩
abbrev cX6_planned : ByteArray := prog_8_method_49_code
def yX6_planned : MethodName := ⟨RX6, "planned", "(II)I"⟩
abbrev cX6_graves : ByteArray := prog_8_method_50_code
def yX6_graves : MethodName := ⟨RX6, "graves", "()I"⟩
abbrev cX6_haunting : ByteArray := prog_8_method_51_code
def yX6_haunting : MethodName := ⟨RX6, "haunting", "()I"⟩
abbrev cX6_openGraves : ByteArray := prog_8_method_52_code
def yX6_openGraves : MethodName := ⟨RX6, "openGraves", "()I"⟩
abbrev cX6_count : ByteArray := prog_8_method_53_code
def yX6_count : MethodName := ⟨RX6, "count", "(I)I"⟩
abbrev cX6_setting : ByteArray := prog_8_method_54_code
def yX6_setting : MethodName := ⟨RX6, "setting", "(I)I"⟩
def RJ9 : String := "java/lang/Math"
def TJ9 : u_T := fun k => match k with
  | _ => ("", "", "", false)
def tyJ9 : Nat → FieldType := fun k => match k with
  | _ => .int
abbrev wsJ90 : List Cond := u_ws RJ9 TJ9 0
theorem nmJ9 : ∀ a, a < 0 → ∀ b, b < 0 → a ≠ b → (TJ9 a).2.1 ≠ (TJ9 b).2.1 := by decide +kernel
theorem tyJ9_ok : ∀ k, k < 0 → parseFieldDescriptor (TJ9 k).2.2.1 = some (tyJ9 k) := by decide +kernel
abbrev cJ9_max_7cf53 : ByteArray := prog_9_method_65_code
def yJ9_max_7cf53 : MethodName := ⟨RJ9, "max", "(II)I"⟩
abbrev cJ9_min_7cf53 : ByteArray := prog_9_method_69_code
def yJ9_min_7cf53 : MethodName := ⟨RJ9, "min", "(II)I"⟩
def RJ10 : String := "java/lang/System"
def TJ10 : u_T := fun k => match k with
  | _ => ("", "", "", false)
def tyJ10 : Nat → FieldType := fun k => match k with
  | _ => .int
abbrev wsJ100 : List Cond := u_ws RJ10 TJ10 0
theorem nmJ10 : ∀ a, a < 0 → ∀ b, b < 0 → a ≠ b → (TJ10 a).2.1 ≠ (TJ10 b).2.1 := by decide +kernel
theorem tyJ10_ok : ∀ k, k < 0 → parseFieldDescriptor (TJ10 k).2.2.1 = some (tyJ10 k) := by decide +kernel
def RL : String := "KeyGravesLaw"
abbrev cL_law : ByteArray := code
def yL_law : MethodName := ⟨RL, "law", "([I)Z"⟩
def vwCl : List vw_C := [(RX0, TX0, 7), (RX1, TX1, 4), (RX2, TX2, 4), (RX3, TX3, 2), (RX4, TX4, 10), (RX5, TX5, 6), (RX6, TX6, 9)]
set_option maxRecDepth 100000 in
theorem kg_in0 : ∀ w ∈ wsX00, w ∈ lw_tbl := by decide +kernel
set_option maxRecDepth 100000 in
theorem kg_in1 : ∀ w ∈ wsX10, w ∈ lw_tbl := by decide +kernel
set_option maxRecDepth 100000 in
theorem kg_in2 : ∀ w ∈ wsX20, w ∈ lw_tbl := by decide +kernel
set_option maxRecDepth 100000 in
theorem kg_in3 : ∀ w ∈ wsX30, w ∈ lw_tbl := by decide +kernel
set_option maxRecDepth 100000 in
theorem kg_in4 : ∀ w ∈ wsX40, w ∈ lw_tbl := by decide +kernel
set_option maxRecDepth 100000 in
theorem kg_in5 : ∀ w ∈ wsX50, w ∈ lw_tbl := by decide +kernel
set_option maxRecDepth 100000 in
theorem kg_in6 : ∀ w ∈ wsX60, w ∈ lw_tbl := by decide +kernel
end
section
/-! THE ABSTRACT MACHINE: places instead of addresses; a memory of ints, a table of refs -/
abbrev kg_M : Type := Nat → Nat → Int32
abbrev kg_Rf : Type := Nat → Nat → Nat
abbrev kg_W : Type := Nat × kg_Rf
def kg_sb (r : Nat) : Nat × Nat := match r with
  | 0 => (4, 4) | 1 => (0, 5) | 2 => (1, 4) | 3 => (4, 1) | 4 => (0, 40) | 5 => (0, 40) | 6 => (0, 40) | 7 => (0, 40) | 8 => (0, 16) | 9 => (4, 2) | 10 => (0, 10) | 11 => (0, 10) | 12 => (0, 10) | 13 => (4, 0) | 14 => (0, 4) | 15 => (0, 10) | 16 => (0, 10) | 17 => (0, 10) | 18 => (0, 10) | _ => (0, 4)
def kg_kd (p : Nat) : Nat × Nat := if p = 0 then (4, 5) else if p ≤ 20 then kg_sb (p - 1) else if p = 21 then (3, 4) else if p ≤ 121 then kg_sb ((p - 22) % 20) else match p with
  | 122 => (4, 3) | 123 => (2, 60) | 124 => (4, 6) | 125 => (0, 287) | 126 => (0, 1148) | 127 => (0, 287) | 128 => (0, 60) | _ => (5, 0)
def kg_nf (c : Nat) : Nat := match c with | 0 => 7 | 1 => 4 | 2 => 4 | 3 => 2 | 4 => 10 | 5 => 6 | _ => 9
/-- is the k-th field of class c a ref -/
def kg_fr (c k : Nat) : Bool := match c with
  | 0 => decide (2 ≤ k) | 1 => true | 2 => decide (1 ≤ k) | 3 => decide (k = 0) | 4 => decide (2 ≤ k ∧ k ≤ 8) | 5 => decide (k ≠ 2 ∧ k ≠ 4) | _ => decide (k = 0 ∨ k = 1 ∨ k = 3 ∨ k = 5)
def kg_ro (b r : Nat) : Option Nat := if r = 0 then none else some (b + r)
def kg_fs (b : Nat) (w : kg_W) (M : kg_M) (p c : Nat) : List Value := (List.range (kg_nf c)).map (fun k => if kg_fr c k = true then va_rf (kg_ro b (w.2 p k)) else .int (M p k))
def kg_ce (b : Nat) (cA : Nat → ClassId) (w : kg_W) (M : kg_M) (p : Nat) : va_E :=
  if (kg_kd p).1 = 3 then .inl (cA 3, (kg_kd p).2, .inr (.inr (.inr (.inr (fun i => kg_ro b (w.2 p i))))))
  else if (kg_kd p).1 = 4 then .inr ((kg_kd p).2, kg_fs b w M p (kg_kd p).2)
  else .inl (cA (kg_kd p).1, (kg_kd p).2, .inl (M p))
def kg_wl (b : Nat) (cA : Nat → ClassId) (w : kg_W) (M : kg_M) : va_W := (List.range w.1).map (fun p => (b + p, kg_ce b cA w M p))
/-- the launch, the first address, the classes, the array classes, the statics' and the script's addresses, the script -/
abbrev kg_G : Type := Launch × Nat × va_G × (Nat → ClassId) × (Nat → Nat) × Nat × (Nat → Int32)
abbrev kg_b (G : kg_G) : Nat := G.2.1
abbrev kg_A (G : kg_G) : Nat → Prop := fun q => kg_b G ≤ q
def kg_cv (G : kg_G) (v : Value) : Value := match v with
  | .int x => .int x
  | .ref p => .ref (if p < 1000 then kg_b G + p else G.2.2.2.2.1 (p - 1000))
  | _ => .null
theorem kg_cat (G : kg_G) (v : Value) : (kg_cv G v).category = 1 := by cases v <;> rfl
theorem kg_cvref (G : kg_G) {p : Nat} (h : p < 1000) : kg_cv G (.ref p) = .ref (kg_b G + p) := by simp [kg_cv, h]
def kg_lg {α : Type} : List (Option α) → Nat → Option α
  | [], _ => none
  | x :: _, 0 => x
  | _ :: l, n + 1 => kg_lg l n
def kg_ls {α : Type} : List (Option α) → Nat → α → List (Option α)
  | [], _, _ => []
  | _ :: l, 0, v => some v :: l
  | x :: l, n + 1, v => x :: kg_ls l n v
theorem kg_lg_ls {α : Type} : ∀ (l : List (Option α)) (i j : Nat) (v w : α), kg_lg (kg_ls l i v) j = some w → (j = i ∧ w = v) ∨ (j ≠ i ∧ kg_lg l j = some w)
  | [], i, j, v, w, h => by simp [kg_ls, kg_lg] at h
  | x :: l, 0, 0, v, w, h => by simp [kg_ls, kg_lg] at h; exact Or.inl ⟨rfl, h.symm⟩
  | x :: l, 0, j + 1, v, w, h => by simp [kg_ls, kg_lg] at h; exact Or.inr ⟨by omega, h⟩
  | x :: l, i + 1, 0, v, w, h => by simp [kg_ls, kg_lg] at h; exact Or.inr ⟨by omega, h⟩
  | x :: l, i + 1, j + 1, v, w, h => by
    have h1 := kg_lg_ls l i j v w h
    rcases h1 with ⟨a, b⟩ | ⟨a, b⟩
    · exact Or.inl ⟨by omega, b⟩
    · exact Or.inr ⟨by omega, b⟩
def kg_cl (G : kg_G) (n : Nat) (ls : List (Option Value)) : List (Nat × Value) := (List.range n).filterMap (fun i => (kg_lg ls i).map (fun v => (i, kg_cv G v)))
theorem kg_cl_in {G : kg_G} {n i : Nat} {ls : List (Option Value)} {v : Value} (hi : i < n) (h : kg_lg ls i = some v) : (i, kg_cv G v) ∈ kg_cl G n ls :=
  List.mem_filterMap.mpr ⟨i, List.mem_range.mpr hi, by rw [h]; rfl⟩
theorem kg_cl_of {G : kg_G} {n : Nat} {ls : List (Option Value)} {q : Nat × Value} (h : q ∈ kg_cl G n ls) : ∃ v, q.1 < n ∧ kg_lg ls q.1 = some v ∧ q.2 = kg_cv G v := by
  obtain ⟨i, hi, h⟩ := List.mem_filterMap.mp h
  cases hv : kg_lg ls i with
  | none => rw [hv] at h; cases h
  | some v =>
    rw [hv] at h
    cases h
    exact ⟨v, List.mem_range.mp hi, hv, rfl⟩
theorem kg_l_rd {G : kg_G} {A : Array Slot} {n i : Nat} {ls : List (Option Value)} {v : Value} (h : lv_has A n (kg_cl G n ls)) (hi : i < n) (hv : kg_lg ls i = some v) : A[i]? = some (.val (kg_cv G v)) := h.2.2 _ (kg_cl_in hi hv)
theorem kg_l_wr {G : kg_G} {A : Array Slot} {n i : Nat} {ls : List (Option Value)} {v : Value} (h : lv_has A n ((i, kg_cv G v) :: (kg_cl G n ls).filter (fun q => !(q.1 == i) && !(q.1 + 1 == i && q.2.category == 2)))) : lv_has A n (kg_cl G n (kg_ls ls i v)) := by
  refine ⟨h.1, h.2.1, fun q hq => ?_⟩
  obtain ⟨v2, h1, h2, h3⟩ := kg_cl_of hq
  obtain ⟨j, qv⟩ := q
  dsimp only at h1 h2 h3
  subst h3
  rcases kg_lg_ls _ _ _ _ _ h2 with ⟨a, e⟩ | ⟨a, e⟩
  · subst a; subst e
    exact h.2.2 (_, kg_cv G v2) List.mem_cons_self
  · refine h.2.2 (j, kg_cv G v2) (List.mem_cons_of_mem _ (List.mem_filter.mpr ⟨kg_cl_in h1 e, ?_⟩))
    simp [a, kg_cat]
/-- slots that the places below n take -/
def kg_zs (p : Nat) : Nat := if (kg_kd p).1 = 4 then kg_nf (kg_kd p).2 else (kg_kd p).2
def kg_sz : Nat → Nat
  | 0 => 0
  | n + 1 => kg_sz n + kg_zs n
theorem kg_sz_mono {a b : Nat} (h : a ≤ b) : kg_sz a ≤ kg_sz b := by
  induction h with
  | refl => exact Nat.le_refl _
  | step _ ih => exact Nat.le_trans ih (Nat.le_add_right _ _)
def kg_tys (cA : Nat → ClassId) : List (ClassId × FieldType) := [(cA 0, .int), (cA 1, .boolean), (cA 2, .char), (cA 3, .object "KeyGraves$State")]
def kg_nest : List (String × Nat × MethodName) := [("KeyGraves$State", 28, yX1_init), ("KeyGraves$State", 38, yX2_init), ("KeyGraves$State", 45, yX0_init), ("KeyGraves", 33, yX3_init), ("KeyGraves$State", 75, yX5_place), ("KeyGraves$State", 110, yX5_pairPlace)]
/-- what is true of every state's tables -/
def kg_Inv (G : kg_G) (U : State) : Prop := va_K G.2.2.1 vwCl (kg_tys G.2.2.2.1) U ∧ (∀ q ∈ kg_nest, va_Nw (.methodLinkNest q.1 q.2.1 q.2.2 "KeyGraves") U) ∧ va_Nw (.fieldLinkNest "KeyGraves$State" 56 "KeyGraves" "FIRST_SETTINGS" "[I" "KeyGraves") U ∧ va_AO "KeyGraves$State" U
theorem kg_Inv.moved {G : kg_G} {s U : State} (hW : s.WarmedH U.vm) (h : kg_Inv G s) : kg_Inv G U :=
  ⟨va_K.moved hW.alike h.1, fun q hq => va_Nw.warmM hW (h.2.1 q hq), va_Nw.warmF hW h.2.2.1, va_AO.moved hW.alike h.2.2.2⟩
theorem kg_Inv.same {G : kg_G} {s U : State} (hv : s.vm = U.vm) (h : kg_Inv G s) : kg_Inv G U :=
  ⟨va_K.moved (by rw [hv]; exact Vm.Alike.refl _) h.1, fun q hq => va_Nw.same rfl hv (h.2.1 q hq), va_Nw.same rfl hv h.2.2.1, va_AO.moved (by rw [hv]; exact Vm.Alike.refl _) h.2.2.2⟩
def kg_sv (p j : Nat) : Int32 := match p with
  | 1001 => (match j with | 0 => 1 | 1 => 1 | 2 => 1 | _ => 0)
  | 1002 => (match j with | 0 => 4 | 1 => 4 | 2 => 500 | _ => 1)
  | _ => (match j with | 0 => 2 | 1 => 2 | 2 => 50 | 3 => 0 | _ => 1)
def kg_sn (p : Nat) : String := match p with | 1001 => "LEAST_SETTINGS" | 1002 => "GREATEST_SETTINGS" | _ => "FIRST_SETTINGS"
/-- the statics and the script, in a heap that agrees with the start below the first address -/
def kg_St (G : kg_G) (U : State) (H : Heap) : Prop :=
  (∀ p, p ∈ [1001, 1002, 1003] → va_Z "KeyGraves" (kg_sn p) "[I" (.ref (G.2.2.2.2.1 (p - 1000))) (kg_A G) U H ∧ va_T .int (G.2.2.2.2.1 (p - 1000)) 5 (fun j => .int (kg_sv p j)) (kg_A G) U H)
  ∧ va_X (G.2.2.2.2.1 0) G.2.2.2.2.2.1 G.2.2.2.2.2.2 U H ∧ G.2.2.2.2.1 0 < kg_b G
theorem kg_St.moved {G : kg_G} {s U : State} {H : Heap} (hW : s.vm.Alike U.vm) (h : kg_St G s H) : kg_St G U H :=
  ⟨fun p hp => ⟨va_Z.moved hW (h.1 p hp).1, va_T.moved hW (h.1 p hp).2⟩, va_X.moved hW h.2.1, h.2.2⟩
theorem kg_St.kept {G : kg_G} {U : State} {H H1 : Heap} (hb : kg_b G ≤ H.size) (hq : ∀ a : Nat, a < H.size → ¬ kg_A G a → H1[a]? = H[a]?) (h : kg_St G U H) : kg_St G U H1 :=
  ⟨fun p hp => ⟨va_Z.kept (h.1 p hp).1 hq, va_T.kept (h.1 p hp).2 hq⟩, va_X.kept h.2.1 (hq _ (Nat.lt_of_lt_of_le h.2.2 hb) (Nat.not_le.mpr h.2.2)), h.2.2⟩
def kg_WH (G : kg_G) (w : kg_W) (M : kg_M) (H : Heap) : Prop := (w.1 < 129 → H.size = kg_b G + w.1) ∧ va_P G.2.2.1 vwCl (kg_wl (kg_b G) G.2.2.2.1 w M) H
theorem kg_wl_at {b : Nat} {cA : Nat → ClassId} {w : kg_W} {M : kg_M} {p : Nat} (h : p < w.1) : (kg_wl b cA w M)[p]? = some (b + p, kg_ce b cA w M p) := by
  simp [kg_wl, h]
theorem kg_wl_of {b : Nat} {cA : Nat → ClassId} {w : kg_W} {M : kg_M} {p : Nat} {q : Nat × va_E} (h : (kg_wl b cA w M)[p]? = some q) : p < w.1 ∧ q = (b + p, kg_ce b cA w M p) := by
  by_cases hp : p < w.1
  · rw [kg_wl_at hp] at h
    exact ⟨hp, (Option.some.inj h).symm⟩
  · simp [kg_wl, hp] at h
theorem kg_dis (G : kg_G) (w : kg_W) (M : kg_M) : va_D (kg_A G) (kg_wl (kg_b G) G.2.2.2.1 w M) := by
  refine ⟨fun i j p q hi hj hpq => ?_, fun k q hk => ?_⟩
  · rw [(kg_wl_of hi).2, (kg_wl_of hj).2] at hpq
    dsimp only at hpq
    omega
  · rw [(kg_wl_of hk).2]
    exact Nat.le_add_right _ _
theorem kg_wl_set {b : Nat} {cA : Nat → ClassId} {w w' : kg_W} {M M' : kg_M} {p : Nat} {e : va_E} (hw : w'.1 = w.1) (he : e = kg_ce b cA w' M' p) (ho : ∀ q, q ≠ p → kg_ce b cA w' M' q = kg_ce b cA w M q) : (kg_wl b cA w M).set p (b + p, e) = kg_wl b cA w' M' := by
  apply List.ext_getElem?
  intro i
  rw [List.getElem?_set]
  by_cases h : p = i
  · subst h
    rw [if_pos rfl]
    by_cases hp : p < w.1
    · rw [kg_wl_at (by omega), he, if_pos (by simp [kg_wl, hp])]
    · simp [kg_wl, hp, hw]
  · rw [if_neg h]
    by_cases hp : i < w.1
    · rw [kg_wl_at hp, kg_wl_at (by omega), ho i (Ne.symm h)]
    · simp [kg_wl, hp, hw]
def kg_wr (M : kg_M) (p j : Nat) (v : Int32) : kg_M := fun q => if q = p then (fun i => if i = j then v else M p i) else M q
def kg_wrr (w : kg_W) (p j r : Nat) : kg_W := (w.1, fun q => if q = p then (fun i => if i = j then r else w.2 p i) else w.2 q)
theorem kg_wr_ne {M : kg_M} {p j q : Nat} {v : Int32} (h : q ≠ p) : kg_wr M p j v q = M q := by simp [kg_wr, h]
theorem kg_wr_eq (M : kg_M) (p j : Nat) (v : Int32) : kg_wr M p j v p j = v := by simp [kg_wr]
theorem kg_wr_nj {M : kg_M} {p j i : Nat} {v : Int32} (h : i ≠ j) : kg_wr M p j v p i = M p i := by simp [kg_wr, h]
theorem kg_ce_same {b : Nat} {cA : Nat → ClassId} {w w' : kg_W} {M M' : kg_M} {p : Nat} (hM : M' p = M p) (hR : w'.2 p = w.2 p) : kg_ce b cA w' M' p = kg_ce b cA w M p := by
  simp only [kg_ce, kg_fs, hM, hR]
theorem kg_WH_put {G : kg_G} {w w' : kg_W} {M M' : kg_M} {H H1 : Heap} {p : Nat} (hH : kg_WH G w M H) (hw : w'.1 = w.1) (hp : p < w.1) (z : H1.size = H.size) (oq : ∀ q : Nat, q ≠ kg_b G + p → H1[q]? = H[q]?) (he : va_at G.2.2.1 vwCl (kg_b G + p, kg_ce (kg_b G) G.2.2.2.1 w' M' p) H1) (ho : ∀ q, q ≠ p → kg_ce (kg_b G) G.2.2.2.1 w' M' q = kg_ce (kg_b G) G.2.2.2.1 w M q) : kg_WH G w' M' H1 := by
  refine ⟨fun h => by rw [z, hw]; exact hH.1 (by omega), ?_⟩
  have h1 := hH.2.set (kg_dis G w M) (kg_wl_at hp) he oq
  rw [kg_wl_set hw rfl ho] at h1
  exact h1
theorem kg_fs_at {b : Nat} {w : kg_W} {M : kg_M} {p c k : Nat} (hk : k < kg_nf c) : (kg_fs b w M p c)[k]? = some (if kg_fr c k = true then va_rf (kg_ro b (w.2 p k)) else .int (M p k)) := by
  simp [kg_fs, hk]
theorem kg_fs_len {b : Nat} {w : kg_W} {M : kg_M} {p c : Nat} : (kg_fs b w M p c).length = kg_nf c := by simp [kg_fs]
theorem kg_fs_seti {b : Nat} {w : kg_W} {M : kg_M} {p c k : Nat} {x : Int32} (hf : kg_fr c k = false) : (kg_fs b w M p c).set k (.int x) = kg_fs b w (kg_wr M p k x) p c := by
  apply List.ext_getElem?
  intro i
  by_cases h : i < kg_nf c
  · by_cases hi : k = i
    · subst hi
      rw [List.getElem?_set_self (by rw [kg_fs_len]; exact h), kg_fs_at h]
      simp [hf, kg_wr]
    · rw [List.getElem?_set_ne hi, kg_fs_at h, kg_fs_at h, kg_wr_nj (Ne.symm hi)]
  · rw [List.getElem?_eq_none (by rw [List.length_set, kg_fs_len]; omega), List.getElem?_eq_none (by rw [kg_fs_len]; omega)]
theorem kg_fs_setr {b : Nat} {w : kg_W} {M : kg_M} {p c k r : Nat} (hf : kg_fr c k = true) : (kg_fs b w M p c).set k (va_rf (kg_ro b r)) = kg_fs b (kg_wrr w p k r) M p c := by
  apply List.ext_getElem?
  intro i
  by_cases h : i < kg_nf c
  · by_cases hi : k = i
    · subst hi
      rw [List.getElem?_set_self (by rw [kg_fs_len]; exact h), kg_fs_at h]
      simp [hf, kg_wrr]
    · rw [List.getElem?_set_ne hi, kg_fs_at h, kg_fs_at h]
      simp [kg_wrr, Ne.symm hi]
  · rw [List.getElem?_eq_none (by rw [List.length_set, kg_fs_len]; omega), List.getElem?_eq_none (by rw [kg_fs_len]; omega)]
theorem kg_ce_o {b : Nat} {cA : Nat → ClassId} {w : kg_W} {M : kg_M} {p c : Nat} (h : kg_kd p = (4, c)) : kg_ce b cA w M p = .inr (c, kg_fs b w M p c) := by simp [kg_ce, h]
theorem kg_ce_i {b : Nat} {cA : Nat → ClassId} {w : kg_W} {M : kg_M} {p t n : Nat} (h : kg_kd p = (t, n)) (ht : t < 3) : kg_ce b cA w M p = .inl (cA t, n, .inl (M p)) := by
  simp only [kg_ce, h]
  rw [if_neg (by omega), if_neg (by omega)]
theorem kg_ce_q {b : Nat} {cA : Nat → ClassId} {w : kg_W} {M : kg_M} {p n : Nat} (h : kg_kd p = (3, n)) : kg_ce b cA w M p = .inl (cA 3, n, .inr (.inr (.inr (.inr (fun i => kg_ro b (w.2 p i)))))) := by simp [kg_ce, h]
theorem kg_wr_upd (M : kg_M) (p j : Nat) (v : Int32) : kg_wr M p j v p = upd (M p) j v := by
  funext i
  simp [kg_wr, upd]
theorem kg_ce_wr {b : Nat} {cA : Nat → ClassId} {w : kg_W} {M : kg_M} {p j q : Nat} {v : Int32} (h : q ≠ p) : kg_ce b cA w (kg_wr M p j v) q = kg_ce b cA w M q := kg_ce_same (kg_wr_ne h) rfl
theorem kg_ce_wrr {b : Nat} {cA : Nat → ClassId} {w : kg_W} {M : kg_M} {p j q r : Nat} (h : q ≠ p) : kg_ce b cA (kg_wrr w p j r) M q = kg_ce b cA w M q := kg_ce_same rfl (by simp [kg_wrr, h])
/-- the classes by number -/
def kg_C (c : Nat) : String := match c with | 0 => RX0 | 1 => RX1 | 2 => RX2 | 3 => RX3 | 4 => RX4 | 5 => RX5 | _ => RX6
def kg_F (c : Nat) : u_T := match c with | 0 => TX0 | 1 => TX1 | 2 => TX2 | 3 => TX3 | 4 => TX4 | 5 => TX5 | _ => TX6
def kg_ft (c : Nat) : Nat → FieldType := match c with | 0 => tyX0 | 1 => tyX1 | 2 => tyX2 | 3 => tyX3 | 4 => tyX4 | 5 => tyX5 | _ => tyX6
theorem kg_c7 {c : Nat} (h : c < 7) : c = 0 ∨ c = 1 ∨ c = 2 ∨ c = 3 ∨ c = 4 ∨ c = 5 ∨ c = 6 := by omega
theorem kg_F_cl {c : Nat} (h : c < 7) : vwCl[c]? = some (kg_C c, kg_F c, kg_nf c) := by
  rcases kg_c7 h with rfl | rfl | rfl | rfl | rfl | rfl | rfl <;> rfl
theorem kg_F_ty {c : Nat} (h : c < 7) : ∀ k, k < kg_nf c → parseFieldDescriptor (kg_F c k).2.2.1 = some (kg_ft c k) := by
  rcases kg_c7 h with rfl | rfl | rfl | rfl | rfl | rfl | rfl
  · exact tyX0_ok
  · exact tyX1_ok
  · exact tyX2_ok
  · exact tyX3_ok
  · exact tyX4_ok
  · exact tyX5_ok
  · exact tyX6_ok
theorem kg_F_nm {c : Nat} (h : c < 7) : ∀ a, a < kg_nf c → ∀ b, b < kg_nf c → a ≠ b → (kg_F c a).2.1 ≠ (kg_F c b).2.1 := by
  rcases kg_c7 h with rfl | rfl | rfl | rfl | rfl | rfl | rfl
  · exact nmX0
  · exact nmX1
  · exact nmX2
  · exact nmX3
  · exact nmX4
  · exact nmX5
  · exact nmX6
theorem kg_F_in0 {c : Nat} (h : c < 7) : ∀ w ∈ u_ws (kg_C c) (kg_F c) (kg_nf c), w ∈ lw_tbl := by
  rcases kg_c7 h with rfl | rfl | rfl | rfl | rfl | rfl | rfl
  · exact kg_in0
  · exact kg_in1
  · exact kg_in2
  · exact kg_in3
  · exact kg_in4
  · exact kg_in5
  · exact kg_in6
theorem kg_F_good {c : Nat} (h : c < 7) : (u_ws (kg_C c) (kg_F c) (kg_nf c)).all goodWord = true := by
  rcases kg_c7 h with rfl | rfl | rfl | rfl | rfl | rfl | rfl <;> decide +kernel
end
section
/-! THE ROWS: one lemma an instruction, over the abstract machine -/
def kg_T : List Cond := lw_tbl.filter goodWord
theorem kg_F_in {c : Nat} (h : c < 7) : ∀ w ∈ u_ws (kg_C c) (kg_F c) (kg_nf c), w ∈ kg_T := fun w hw => List.mem_filter.mpr ⟨kg_F_in0 h w hw, List.all_eq_true.mp (kg_F_good h) w hw⟩
abbrev kg_Xt : Type := Program → Env → Room → State → MethodId → Array Value → List Frame → Method → Code → (State → Prop) → Prop
/-- what a method's own words say, of any state that it starts in -/
def kg_Bs (G : kg_G) (own : String) (cc : ByteArray) (nL d : Nat) (ini : Bool) (N0 NX : Nat) (p : Program) (R : Room) (s : State) (m : MethodId) (args : Array Value) (meth : Method) (c : Code) : Prop :=
  p.tables.exec = Jvm.exec ∧ c.code = cc ∧ c.maxLocals = nL ∧ s.vm.findClass own = some m.cls ∧ (∀ w ∈ kg_T, w.before args s = true) ∧ kg_Inv G s ∧ kg_St G s s.heap ∧ kg_b G ≤ s.heap.size ∧ (d ≤ R.frames ∧ 30 * d + 24 ≤ R.locals) ∧ (NX - N0 ≤ R.cells ∧ kg_sz NX - kg_sz N0 ≤ R.slots) ∧ (ini = true → meth.name = "<init>")
def kg_B (G : kg_G) (X : kg_Xt) (own : String) (cc : ByteArray) (nL d : Nat) (ini : Bool) (N0 NX : Nat) : Prop :=
  ∀ p e R s m args below meth c Qf, X p e R s m args below meth c Qf → kg_Bs G own cc nL d ini N0 NX p R s m args meth c
def kg_V (G : kg_G) (X : kg_Xt) (nL N0 NX : Nat) (pc : Nat) (ls : List (Option Value)) (st : List Value) (w : kg_W) (M : kg_M) : Prop :=
  N0 ≤ w.1 → w.1 ≤ NX → ∀ p e R s m args below meth c Qf, X p e R s m args below meth c Qf → ∀ (H : Heap) (locs : List Loc) (A : Array Slot), kg_WH G w M H → va_S (kg_A G) s.heap H locs → lv_has A nL (kg_cl G nL ls) → W p G.1 e R s m args below meth c H locs (w.1 - N0) (kg_sz w.1 - kg_sz N0) Qf (F0 m pc A (st.map (kg_cv G)))
section
variable {G : kg_G} {X : kg_Xt} {own : String} {cc : ByteArray} {nL d : Nat} {ini : Bool} {N0 NX : Nat} {pc : Nat} {ls : List (Option Value)} {st : List Value} {w : kg_W} {M : kg_M}
theorem kg_r_const (hB : kg_B G X own cc nL d ini N0 NX) {a : Int} {x : Int32} {nx : Nat} (h : (nx = pc + 1 ∧ decode cc pc = .ok (.iconst a, 1) ∧ Int32.ofInt a = x) ∨ (nx = pc + 2 ∧ decode cc pc = .ok (.bipush a, 2) ∧ (Int8.ofInt a).toInt32 = x) ∨ (nx = pc + 3 ∧ decode cc pc = .ok (.sipush a, 3) ∧ (Int16.ofInt a).toInt32 = x))
    (k : kg_V G X nL N0 NX nx ls (.int x :: st) w M) : kg_V G X nL N0 NX pc ls st w M := by
  intro g1 g2 p e R s m args below meth c Qf hX H locs A hH hS hl
  obtain ⟨hx, hb, -⟩ := hB _ _ _ _ _ _ _ _ _ _ hX
  rcases h with ⟨rfl, hd, hv⟩ | ⟨rfl, hd, hv⟩ | ⟨rfl, hd, hv⟩
  · exact lv_iconst hx hb hd hv (k g1 g2 p e R s m args below meth c Qf hX H locs A hH hS hl)
  · exact lv_bipush hx hb hd hv (k g1 g2 p e R s m args below meth c Qf hX H locs A hH hS hl)
  · exact lv_sipush hx hb hd hv (k g1 g2 p e R s m args below meth c Qf hX H locs A hH hS hl)
theorem kg_r_ldc (hB : kg_B G X own cc nL d ini N0 NX) {i : Nat} {x : Int32} (hd : decode cc pc = .ok (.ldc i, 2)) (hc : Cond.constant own i x ∈ kg_T)
    (k : kg_V G X nL N0 NX (pc + 2) ls (.int x :: st) w M) : kg_V G X nL N0 NX pc ls st w M := by
  intro g1 g2 p e R s m args below meth c Qf hX H locs A hH hS hl
  obtain ⟨hx, hb, -, hown, hts, -⟩ := hB _ _ _ _ _ _ _ _ _ _ hX
  exact lv_ldc hx hb hown (hts _ hc) hd (k g1 g2 p e R s m args below meth c Qf hX H locs A hH hS hl)
theorem kg_r_iload (hB : kg_B G X own cc nL d ini N0 NX) {a : Nat} {x : Int32} {nx : Nat} (ha : a < nL) (h : (nx = pc + 1 ∧ ∃ f : Fin 4, (f : Nat) = a ∧ decode cc pc = .ok (.iload_n f, 1)) ∨ (nx = pc + 2 ∧ decode cc pc = .ok (.iload a, 2))) (hv : kg_lg ls a = some (.int x))
    (k : kg_V G X nL N0 NX nx ls (.int x :: st) w M) : kg_V G X nL N0 NX pc ls st w M := by
  intro g1 g2 p e R s m args below meth c Qf hX H locs A hH hS hl
  obtain ⟨hx, hb, -⟩ := hB _ _ _ _ _ _ _ _ _ _ hX
  rcases h with ⟨rfl, f, hf, hd⟩ | ⟨rfl, hd⟩
  · exact lv_iload_n hx hb hd hf (kg_l_rd hl ha hv) (k g1 g2 p e R s m args below meth c Qf hX H locs A hH hS hl)
  · exact lv_iload hx hb hd (kg_l_rd hl ha hv) (k g1 g2 p e R s m args below meth c Qf hX H locs A hH hS hl)
theorem kg_r_aload (hB : kg_B G X own cc nL d ini N0 NX) {a q : Nat} {nx : Nat} (ha : a < nL) (h : (nx = pc + 1 ∧ ∃ f : Fin 4, (f : Nat) = a ∧ decode cc pc = .ok (.aload_n f, 1)) ∨ (nx = pc + 2 ∧ decode cc pc = .ok (.aload a, 2))) (hv : kg_lg ls a = some (.ref q))
    (k : kg_V G X nL N0 NX nx ls (.ref q :: st) w M) : kg_V G X nL N0 NX pc ls st w M := by
  intro g1 g2 p e R s m args below meth c Qf hX H locs A hH hS hl
  obtain ⟨hx, hb, -⟩ := hB _ _ _ _ _ _ _ _ _ _ hX
  rcases h with ⟨rfl, f, hf, hd⟩ | ⟨rfl, hd⟩
  · exact lv_aload_n hx hb hd hf (kg_l_rd hl ha hv) (k g1 g2 p e R s m args below meth c Qf hX H locs A hH hS hl)
  · exact lv_aload hx hb hd (kg_l_rd hl ha hv) (k g1 g2 p e R s m args below meth c Qf hX H locs A hH hS hl)
theorem kg_r_istore (hB : kg_B G X own cc nL d ini N0 NX) {a : Nat} {x : Int32} {nx : Nat} (ha : a < nL) (h : (nx = pc + 1 ∧ ∃ f : Fin 4, (f : Nat) = a ∧ decode cc pc = .ok (.istore_n f, 1)) ∨ (nx = pc + 2 ∧ decode cc pc = .ok (.istore a, 2)))
    (k : kg_V G X nL N0 NX nx (kg_ls ls a (.int x)) st w M) : kg_V G X nL N0 NX pc ls (.int x :: st) w M := by
  intro g1 g2 p e R s m args below meth c Qf hX H locs A hH hS hl
  obtain ⟨hx, hb, -⟩ := hB _ _ _ _ _ _ _ _ _ _ hX
  rcases h with ⟨rfl, f, hf, hd⟩ | ⟨rfl, hd⟩
  · exact lv_istore_n hx hb hd hf hl ha rfl (fun A2 h2 => k g1 g2 p e R s m args below meth c Qf hX H locs A2 hH hS (kg_l_wr (v := .int x) h2))
  · exact lv_istore hx hb hd hl ha rfl (fun A2 h2 => k g1 g2 p e R s m args below meth c Qf hX H locs A2 hH hS (kg_l_wr (v := .int x) h2))
theorem kg_r_astore (hB : kg_B G X own cc nL d ini N0 NX) {a q : Nat} {nx : Nat} (ha : a < nL) (h : (nx = pc + 1 ∧ ∃ f : Fin 4, (f : Nat) = a ∧ decode cc pc = .ok (.astore_n f, 1)) ∨ (nx = pc + 2 ∧ decode cc pc = .ok (.astore a, 2)))
    (k : kg_V G X nL N0 NX nx (kg_ls ls a (.ref q)) st w M) : kg_V G X nL N0 NX pc ls (.ref q :: st) w M := by
  intro g1 g2 p e R s m args below meth c Qf hX H locs A hH hS hl
  obtain ⟨hx, hb, -⟩ := hB _ _ _ _ _ _ _ _ _ _ hX
  rcases h with ⟨rfl, f, hf, hd⟩ | ⟨rfl, hd⟩
  · exact lv_astore_n hx hb hd hf hl ha rfl (fun A2 h2 => k g1 g2 p e R s m args below meth c Qf hX H locs A2 hH hS (kg_l_wr (v := .ref q) h2))
  · exact lv_astore hx hb hd hl ha rfl (fun A2 h2 => k g1 g2 p e R s m args below meth c Qf hX H locs A2 hH hS (kg_l_wr (v := .ref q) h2))
theorem kg_r_iinc (hB : kg_B G X own cc nL d ini N0 NX) {a : Nat} {z : Int} {x y : Int32} (ha : a < nL) (hd : decode cc pc = .ok (.iinc a z, 3)) (hv : kg_lg ls a = some (.int x)) (hy : Int32.ofInt z = y)
    (k : kg_V G X nL N0 NX (pc + 3) (kg_ls ls a (.int (x + y))) st w M) : kg_V G X nL N0 NX pc ls st w M := by
  intro g1 g2 p e R s m args below meth c Qf hX H locs A hH hS hl
  obtain ⟨hx, hb, -⟩ := hB _ _ _ _ _ _ _ _ _ _ hX
  obtain ⟨i, hi⟩ := List.getElem?_of_mem (kg_cl_in (G := G) ha hv)
  subst hy
  exact lv_iinc hx hb hd hl hi rfl ha rfl (fun A2 h2 => k g1 g2 p e R s m args below meth c Qf hX H locs A2 hH hS (kg_l_wr (v := .int (x + Int32.ofInt z)) h2))
theorem kg_r_iadd (hB : kg_B G X own cc nL d ini N0 NX) {x y : Int32} (hd : decode cc pc = .ok (.iadd, 1)) (k : kg_V G X nL N0 NX (pc + 1) ls (.int (x + y) :: st) w M) : kg_V G X nL N0 NX pc ls (.int y :: .int x :: st) w M := by
  intro g1 g2 p e R s m args below meth c Qf hX H locs A hH hS hl
  obtain ⟨hx, hb, -⟩ := hB _ _ _ _ _ _ _ _ _ _ hX
  exact lv_iadd hx hb hd (k g1 g2 p e R s m args below meth c Qf hX H locs A hH hS hl)
theorem kg_r_isub (hB : kg_B G X own cc nL d ini N0 NX) {x y : Int32} (hd : decode cc pc = .ok (.isub, 1)) (k : kg_V G X nL N0 NX (pc + 1) ls (.int (x - y) :: st) w M) : kg_V G X nL N0 NX pc ls (.int y :: .int x :: st) w M := by
  intro g1 g2 p e R s m args below meth c Qf hX H locs A hH hS hl
  obtain ⟨hx, hb, -⟩ := hB _ _ _ _ _ _ _ _ _ _ hX
  exact lv_isub hx hb hd (k g1 g2 p e R s m args below meth c Qf hX H locs A hH hS hl)
theorem kg_r_imul (hB : kg_B G X own cc nL d ini N0 NX) {x y : Int32} (hd : decode cc pc = .ok (.imul, 1)) (k : kg_V G X nL N0 NX (pc + 1) ls (.int (x * y) :: st) w M) : kg_V G X nL N0 NX pc ls (.int y :: .int x :: st) w M := by
  intro g1 g2 p e R s m args below meth c Qf hX H locs A hH hS hl
  obtain ⟨hx, hb, -⟩ := hB _ _ _ _ _ _ _ _ _ _ hX
  exact lv_imul hx hb hd (k g1 g2 p e R s m args below meth c Qf hX H locs A hH hS hl)
theorem kg_r_iand (hB : kg_B G X own cc nL d ini N0 NX) {x y : Int32} (hd : decode cc pc = .ok (.iand, 1)) (k : kg_V G X nL N0 NX (pc + 1) ls (.int (x &&& y) :: st) w M) : kg_V G X nL N0 NX pc ls (.int y :: .int x :: st) w M := by
  intro g1 g2 p e R s m args below meth c Qf hX H locs A hH hS hl
  obtain ⟨hx, hb, -⟩ := hB _ _ _ _ _ _ _ _ _ _ hX
  exact lv_iand hx hb hd (k g1 g2 p e R s m args below meth c Qf hX H locs A hH hS hl)
theorem kg_r_irem (hB : kg_B G X own cc nL d ini N0 NX) {x y : Int32} (hd : decode cc pc = .ok (.irem, 1)) (hy : ¬ y = 0) (k : kg_V G X nL N0 NX (pc + 1) ls (.int (x - x / y * y) :: st) w M) : kg_V G X nL N0 NX pc ls (.int y :: .int x :: st) w M := by
  intro g1 g2 p e R s m args below meth c Qf hX H locs A hH hS hl
  obtain ⟨hx, hb, -⟩ := hB _ _ _ _ _ _ _ _ _ _ hX
  exact lv_irem hx hb hd hy (k g1 g2 p e R s m args below meth c Qf hX H locs A hH hS hl)
theorem kg_r_i2c (hB : kg_B G X own cc nL d ini N0 NX) {x : Int32} (hd : decode cc pc = .ok (.i2c, 1)) (k : kg_V G X nL N0 NX (pc + 1) ls (.int (x.toUInt32 % 65536).toInt32 :: st) w M) : kg_V G X nL N0 NX pc ls (.int x :: st) w M := by
  intro g1 g2 p e R s m args below meth c Qf hX H locs A hH hS hl
  obtain ⟨hx, hb, -⟩ := hB _ _ _ _ _ _ _ _ _ _ hX
  exact lv_i2c hx hb hd rfl (k g1 g2 p e R s m args below meth c Qf hX H locs A hH hS hl)
theorem kg_r_dup (hB : kg_B G X own cc nL d ini N0 NX) {v : Value} (hd : decode cc pc = .ok (.dup, 1)) (k : kg_V G X nL N0 NX (pc + 1) ls (v :: v :: st) w M) : kg_V G X nL N0 NX pc ls (v :: st) w M := by
  intro g1 g2 p e R s m args below meth c Qf hX H locs A hH hS hl
  obtain ⟨hx, hb, -⟩ := hB _ _ _ _ _ _ _ _ _ _ hX
  exact lv_dup hx hb hd (kg_cat G v) (k g1 g2 p e R s m args below meth c Qf hX H locs A hH hS hl)
theorem kg_r_dup2 (hB : kg_B G X own cc nL d ini N0 NX) {v u : Value} (hd : decode cc pc = .ok (.dup2, 1)) (k : kg_V G X nL N0 NX (pc + 1) ls (v :: u :: v :: u :: st) w M) : kg_V G X nL N0 NX pc ls (v :: u :: st) w M := by
  intro g1 g2 p e R s m args below meth c Qf hX H locs A hH hS hl
  obtain ⟨hx, hb, -⟩ := hB _ _ _ _ _ _ _ _ _ _ hX
  exact lv_dup2_11 hx hb hd (kg_cat G v) (kg_cat G u) (k g1 g2 p e R s m args below meth c Qf hX H locs A hH hS hl)
theorem kg_r_pop (hB : kg_B G X own cc nL d ini N0 NX) {v : Value} (hd : decode cc pc = .ok (.pop, 1)) (k : kg_V G X nL N0 NX (pc + 1) ls st w M) : kg_V G X nL N0 NX pc ls (v :: st) w M := by
  intro g1 g2 p e R s m args below meth c Qf hX H locs A hH hS hl
  obtain ⟨hx, hb, -⟩ := hB _ _ _ _ _ _ _ _ _ _ hX
  exact lv_pop hx hb hd (kg_cat G v) (k g1 g2 p e R s m args below meth c Qf hX H locs A hH hS hl)
theorem kg_r_goto (hB : kg_B G X own cc nL d ini N0 NX) {off : Int} {tgt : Nat} (hd : decode cc pc = .ok (.goto off, 3)) (ht : (pc : Int) + off = (tgt : Int)) (k : kg_V G X nL N0 NX tgt ls st w M) : kg_V G X nL N0 NX pc ls st w M := by
  intro g1 g2 p e R s m args below meth c Qf hX H locs A hH hS hl
  obtain ⟨hx, hb, -⟩ := hB _ _ _ _ _ _ _ _ _ _ hX
  exact lv_goto hx hb hd ht (k g1 g2 p e R s m args below meth c Qf hX H locs A hH hS hl)
def kg_cond (a : Nat) : Jvm.ClassFile.Cond := match a with | 0 => .eq | 1 => .ne | 2 => .lt | 3 => .ge | 4 => .gt | _ => .le
/-- x ? y by a condition's number -/
def kg_cmp (a : Nat) (x y : Int32) : Prop := match a with | 0 => x = y | 1 => ¬ x = y | 2 => x < y | 3 => y ≤ x | 4 => y < x | _ => x ≤ y
theorem kg_r_icmp (hB : kg_B G X own cc nL d ini N0 NX) {a : Nat} {off : Int} {tgt : Nat} {x y : Int32} (hd : decode cc pc = .ok (.if_icmp (kg_cond a) off, 3)) (ht : (pc : Int) + off = (tgt : Int))
    (kt : kg_cmp a x y → kg_V G X nL N0 NX tgt ls st w M) (kf : ¬ kg_cmp a x y → kg_V G X nL N0 NX (pc + 3) ls st w M) : kg_V G X nL N0 NX pc ls (.int y :: .int x :: st) w M := by
  intro g1 g2 p e R s m args below meth c Qf hX H locs A hH hS hl
  obtain ⟨hx, hb, -⟩ := hB _ _ _ _ _ _ _ _ _ _ hX
  have kt := fun h => kt h g1 g2 p e R s m args below meth c Qf hX H locs A hH hS hl
  have kf := fun h => kf h g1 g2 p e R s m args below meth c Qf hX H locs A hH hS hl
  match a, hd, kt, kf with
  | 0, hd, kt, kf => exact lv_icmp_eq hx hb hd ht kt kf
  | 1, hd, kt, kf => exact lv_icmp_ne hx hb hd ht kt (fun h => kf (fun q => q h))
  | 2, hd, kt, kf => exact lv_icmp_lt hx hb hd ht kt kf
  | 3, hd, kt, kf => exact lv_icmp_ge hx hb hd ht kt kf
  | 4, hd, kt, kf => exact lv_icmp_gt hx hb hd ht kt kf
  | n + 5, hd, kt, kf => exact lv_icmp_le hx hb hd ht kt kf
theorem kg_r_if (hB : kg_B G X own cc nL d ini N0 NX) {a : Nat} {off : Int} {tgt : Nat} {x : Int32} (hd : decode cc pc = .ok (.ifCond (kg_cond a) off, 3)) (ht : (pc : Int) + off = (tgt : Int))
    (kt : kg_cmp a x 0 → kg_V G X nL N0 NX tgt ls st w M) (kf : ¬ kg_cmp a x 0 → kg_V G X nL N0 NX (pc + 3) ls st w M) : kg_V G X nL N0 NX pc ls (.int x :: st) w M := by
  intro g1 g2 p e R s m args below meth c Qf hX H locs A hH hS hl
  obtain ⟨hx, hb, -⟩ := hB _ _ _ _ _ _ _ _ _ _ hX
  have kt := fun h => kt h g1 g2 p e R s m args below meth c Qf hX H locs A hH hS hl
  have kf := fun h => kf h g1 g2 p e R s m args below meth c Qf hX H locs A hH hS hl
  match a, hd, kt, kf with
  | 0, hd, kt, kf => exact lv_if_eq hx hb hd ht kt kf
  | 1, hd, kt, kf => exact lv_if_ne hx hb hd ht kt (fun h => kf (fun q => q h))
  | 2, hd, kt, kf => exact lv_if_lt hx hb hd ht kt kf
  | 3, hd, kt, kf => exact lv_if_ge hx hb hd ht kt kf
  | 4, hd, kt, kf => exact lv_if_gt hx hb hd ht kt kf
  | n + 5, hd, kt, kf => exact lv_if_le hx hb hd ht kt kf
end
end
section
/-! ROWS of fields and arrays -/
section
variable {G : kg_G} {X : kg_Xt} {own : String} {cc : ByteArray} {nL d : Nat} {ini : Bool} {N0 NX : Nat} {pc : Nat} {ls : List (Option Value)} {st : List Value} {w : kg_W} {M : kg_M}
theorem kg_r_geti (hB : kg_B G X own cc nL d ini N0 NX) {p c k i : Nat} (hp : p < 1000) (hpw : p < w.1) (hc : c < 7) (hk : k < kg_nf c) (hkd : kg_kd p = (4, c)) (hf : kg_fr c k = false) (hln : Cond.fieldLink own i (kg_F c k).1 (kg_F c k).2.1 (kg_F c k).2.2.1 ∈ kg_T) (hd : decode cc pc = .ok (.getfield i, 3))
    (kk : kg_V G X nL N0 NX (pc + 3) ls (.int (M p k) :: st) w M) : kg_V G X nL N0 NX pc ls (.ref p :: st) w M := by
  intro g1 g2 p' e R s m args below meth c' Qf hX H locs A hH hS hl
  obtain ⟨hx, hb, -, hown, hts, hI, -⟩ := hB _ _ _ _ _ _ _ _ _ _ hX
  rw [List.map_cons, kg_cvref G hp]
  refine va_get hx hb hts (kg_F_in hc) hown hI.1 hH.2 p (fs := kg_fs (kg_b G) w M p c) ?_ (kg_F_cl hc) k hk (hts _ hln) (fun _ h9 => h9) (v := .int (M p k)) ?_ hd (kk g1 g2 p' e R s m args below meth c' Qf hX H locs A hH hS hl)
  · rw [kg_wl_at hpw, kg_ce_o hkd]
  · rw [kg_fs_at hk, hf]; rfl
theorem kg_r_getr (hB : kg_B G X own cc nL d ini N0 NX) {p c k i q : Nat} (hp : p < 1000) (hpw : p < w.1) (hc : c < 7) (hk : k < kg_nf c) (hkd : kg_kd p = (4, c)) (hf : kg_fr c k = true) (hln : Cond.fieldLink own i (kg_F c k).1 (kg_F c k).2.1 (kg_F c k).2.2.1 ∈ kg_T) (hq : w.2 p k = q) (hq0 : q ≠ 0) (hq1 : q < 1000) (hd : decode cc pc = .ok (.getfield i, 3))
    (kk : kg_V G X nL N0 NX (pc + 3) ls (.ref q :: st) w M) : kg_V G X nL N0 NX pc ls (.ref p :: st) w M := by
  intro g1 g2 p' e R s m args below meth c' Qf hX H locs A hH hS hl
  obtain ⟨hx, hb, -, hown, hts, hI, -⟩ := hB _ _ _ _ _ _ _ _ _ _ hX
  rw [List.map_cons, kg_cvref G hp]
  refine va_get hx hb hts (kg_F_in hc) hown hI.1 hH.2 p (fs := kg_fs (kg_b G) w M p c) ?_ (kg_F_cl hc) k hk (hts _ hln) (fun _ h9 => h9) (v := kg_cv G (.ref q)) ?_ hd (kk g1 g2 p' e R s m args below meth c' Qf hX H locs A hH hS hl)
  · rw [kg_wl_at hpw, kg_ce_o hkd]
  · rw [kg_fs_at hk, hf, hq, kg_cvref G hq1]
    simp [kg_ro, hq0, va_rf]
/-- a store into a field: the common part -/
theorem kg_r_put (hB : kg_B G X own cc nL d ini N0 NX) {p c k i : Nat} {v : Value} {w' : kg_W} {M' : kg_M} (hp : p < 1000) (hpw : p < w.1) (hc : c < 7) (hk : k < kg_nf c) (hkd : kg_kd p = (4, c)) (hln : Cond.fieldLink own i (kg_F c k).1 (kg_F c k).2.1 (kg_F c k).2.2.1 ∈ kg_T) (hfin : (kg_F c k).2.2.2 = false ∨ (ini = true ∧ (kg_F c k).1 = own)) (hd : decode cc pc = .ok (.putfield i, 3))
    (hn : narrow (kg_ft c k) (kg_cv G v) = kg_cv G v) (hfit : fits (kg_ft c k) (kg_cv G v) = true) (hw : w'.1 = w.1) (hset : (kg_fs (kg_b G) w M p c).set k (kg_cv G v) = kg_fs (kg_b G) w' M' p c) (ho : ∀ q, q ≠ p → kg_ce (kg_b G) G.2.2.2.1 w' M' q = kg_ce (kg_b G) G.2.2.2.1 w M q)
    (kk : kg_V G X nL N0 NX (pc + 3) ls st w' M') : kg_V G X nL N0 NX pc ls (v :: .ref p :: st) w M := by
  intro g1 g2 p' e R s m args below meth c' Qf hX H locs A hH hS hl
  obtain ⟨hx, hb, -, hown, hts, hI, -, -, -, -, hini⟩ := hB _ _ _ _ _ _ _ _ _ _ hX
  rw [List.map_cons, List.map_cons, kg_cvref G hp]
  have hcl := kg_F_cl hc
  have hin := kg_F_in hc
  have hap := va_apart (own := own) hts hin (kg_ft c) (kg_F_ty hc) (kg_F_nm hc) hI.1 hcl
  obtain ⟨r, h1, cell, q1, q2, q3, q4⟩ := hH.2 p (kg_b G + p, .inr (c, kg_fs (kg_b G) w M p c)) (by rw [kg_wl_at hpw, kg_ce_o hkd])
  have hr : r = (kg_C c, kg_F c, kg_nf c) := Option.some.inj (h1.symm.trans hcl)
  subst hr
  obtain ⟨hSl, hfc, kC, hkC, hkind⟩ := hI.1.1 c _ hcl
  obtain ⟨cf, kf, fi, f, hi, hsl⟩ := hSl k hk
  have hlay := hts _ (hin _ (u_in_lay hk))
  have hst := (u_facts hfc hkC (u_lays hts hin hk) hi).1
  have fin : ∀ (H1 : Heap) (loc : Loc), H1[kg_b G + p]? = some (cell.setSlot f.slot (kg_cv G v)) → H1.size = H.size → (∀ q, q ≠ kg_b G + p → H1[q]? = H[q]?) → loc.base = kg_b G + p → W p' G.1 e R s m args below meth c' H1 (locs ++ [loc]) (w.1 - N0) (kg_sz w.1 - kg_sz N0) Qf (F0 m (pc + 3) A (st.map (kg_cv G))) := by
    intro H1 loc e1 e2 e3 el
    have g1' := g1
    have g2' := g2
    rw [← hw] at g1' g2' ⊢
    rw [hsl] at e1
    refine kk g1' g2' p' e R s m args below meth c' Qf hX H1 _ A (kg_WH_put hH hw hpw e2 e3 ?_ ho) ⟨by rw [e2]; exact hS.1, fun q a1 a2 => by rw [e3 q (fun z => a2 (by rw [z]; exact Nat.le_add_right _ _))]; exact hS.2.1 q a1 a2, fun q hq => ?_⟩ hl
    · rw [kg_ce_o hkd, ← hset]
      exact ⟨_, hcl, t_OB.to (V := updV (vp_V (kg_fs (kg_b G) w M p c)) k (kg_cv G v)) ⟨_, e1, q2, q3, t_set q4 hap hk _⟩ (fun j _ => vp_updV_set (by rw [kg_fs_len]; exact hk) _ j)⟩
    · rcases List.mem_append.mp hq with h | h
      · exact hS.2.2 q h
      · rw [List.mem_singleton.mp h, el]; exact Nat.le_add_right _ _
  unfold u_lay at hlay
  rcases hfin with hfin | ⟨hi1, hdecl⟩
  · rw [if_neg (by rw [hfin]; decide)] at hlay
    have h6 := u_store hfc hkC hkind hlay hi (kg_F_ty hc k hk) hn hfit
    exact W.putK hx hb (f := f) ⟨hown, hts _ hln, ⟨_, _, _, hi⟩, hst⟩ (by rw [q2]; exact h6) q1 q3 (by rw [hsl]; exact k2_hasslot (q4 k hk)) rfl rfl hd fun H' e1 e2 e3 => fin H' _ e1 e2 e3 rfl
  · by_cases hfin : (kg_F c k).2.2.2 = true
    · rw [if_pos hfin] at hlay
      have hcf : m.cls = cf := by
        obtain ⟨_, _, c', _, _, _, -, -, hf', -, -, -, hown2, -⟩ := Cond.laysFinal_spec hlay
        have e1 : c' = cf := by have := hi.symm.trans hf'; simp at this; exact this.1.symm
        rw [hdecl] at hown2
        rw [← e1]; exact Option.some.inj (hown.symm.trans hown2)
      have h6 := u_fits hfc hkC hkind (Or.inr hlay) hi (kg_F_ty hc k hk) hn hfit
      exact W.putFinK hx hb hown (hts _ hln) hi hst hcf (hini hi1) (by rw [q2]; exact h6) q1 q3 (by rw [hsl]; exact k2_hasslot (q4 k hk)) rfl rfl hd fun H' e1 e2 e3 => fin H' _ e1 e2 e3 rfl
    · rw [if_neg hfin] at hlay
      have h6 := u_store hfc hkC hkind hlay hi (kg_F_ty hc k hk) hn hfit
      exact W.putK hx hb (f := f) ⟨hown, hts _ hln, ⟨_, _, _, hi⟩, hst⟩ (by rw [q2]; exact h6) q1 q3 (by rw [hsl]; exact k2_hasslot (q4 k hk)) rfl rfl hd fun H' e1 e2 e3 => fin H' _ e1 e2 e3 rfl
theorem kg_r_puti (hB : kg_B G X own cc nL d ini N0 NX) {p c k i : Nat} {x : Int32} (hp : p < 1000) (hpw : p < w.1) (hc : c < 7) (hk : k < kg_nf c) (hkd : kg_kd p = (4, c)) (hf : kg_fr c k = false) (hln : Cond.fieldLink own i (kg_F c k).1 (kg_F c k).2.1 (kg_F c k).2.2.1 ∈ kg_T) (hfin : (kg_F c k).2.2.2 = false ∨ (ini = true ∧ (kg_F c k).1 = own)) (hd : decode cc pc = .ok (.putfield i, 3))
    (hz : kg_ft c k = .int ∨ (kg_ft c k = .boolean ∧ (x = 0 ∨ x = 1)))
    (kk : kg_V G X nL N0 NX (pc + 3) ls st w (kg_wr M p k x)) : kg_V G X nL N0 NX pc ls (.int x :: .ref p :: st) w M := by
  refine kg_r_put hB hp hpw hc hk hkd hln hfin hd ?_ ?_ rfl (kg_fs_seti hf) (fun q hq => kg_ce_wr hq) kk
  · rcases hz with hz | ⟨hz, rfl | rfl⟩ <;> rw [hz] <;> rfl
  · rcases hz with hz | ⟨hz, rfl | rfl⟩ <;> rw [hz] <;> rfl
theorem kg_r_putr (hB : kg_B G X own cc nL d ini N0 NX) {p c k i q : Nat} (hp : p < 1000) (hpw : p < w.1) (hc : c < 7) (hk : k < kg_nf c) (hkd : kg_kd p = (4, c)) (hf : kg_fr c k = true) (hln : Cond.fieldLink own i (kg_F c k).1 (kg_F c k).2.1 (kg_F c k).2.2.1 ∈ kg_T) (hfin : (kg_F c k).2.2.2 = false ∨ (ini = true ∧ (kg_F c k).1 = own)) (hq0 : q ≠ 0) (hq1 : q < 1000) (hd : decode cc pc = .ok (.putfield i, 3))
    (hz : (∃ t, kg_ft c k = .array t) ∨ ∃ t, kg_ft c k = .object t)
    (kk : kg_V G X nL N0 NX (pc + 3) ls st (kg_wrr w p k q) M) : kg_V G X nL N0 NX pc ls (.ref q :: .ref p :: st) w M := by
  have e : kg_cv G (.ref q) = va_rf (kg_ro (kg_b G) q) := by rw [kg_cvref G hq1]; simp [kg_ro, hq0, va_rf]
  refine kg_r_put (w' := kg_wrr w p k q) hB hp hpw hc hk hkd hln hfin hd ?_ ?_ rfl (by rw [e]; exact kg_fs_setr hf) (fun q hq => kg_ce_wrr hq) kk
  · rw [kg_cvref G hq1]; rcases hz with ⟨t, hz⟩ | ⟨t, hz⟩ <;> rw [hz] <;> rfl
  · rw [kg_cvref G hq1]; rcases hz with ⟨t, hz⟩ | ⟨t, hz⟩ <;> rw [hz] <;> rfl
theorem kg_r_iald (hB : kg_B G X own cc nL d ini N0 NX) {p n j : Nat} (hp : p < 1000) (hpw : p < w.1) (hkd : kg_kd p = (0, n)) (hj : j < n) (hn : n < 2 ^ 31) (hd : decode cc pc = .ok (.iaload, 1))
    (kk : kg_V G X nL N0 NX (pc + 1) ls (.int (M p j) :: st) w M) : kg_V G X nL N0 NX pc ls (.int (nI j) :: .ref p :: st) w M := by
  intro g1 g2 p' e R s m args below meth c' Qf hX H locs A hH hS hl
  obtain ⟨hx, hb, -, hown, hts, hI, -⟩ := hB _ _ _ _ _ _ _ _ _ _ hX
  rw [List.map_cons, List.map_cons, kg_cvref G hp]
  refine va_iald hx hb hI.1 hH.2 p 0 (by rw [kg_wl_at hpw, kg_ce_i hkd (by omega)]) rfl (vp_in_nI hj hn) hd ?_
  rw [nI_clamp (by omega)]
  exact kk g1 g2 p' e R s m args below meth c' Qf hX H locs A hH hS hl
theorem kg_r_zald (hB : kg_B G X own cc nL d ini N0 NX) {p n j : Nat} (hp : p < 1000) (hpw : p < w.1) (hkd : kg_kd p = (1, n)) (hj : j < n) (hn : n < 2 ^ 31) (hd : decode cc pc = .ok (.baload, 1))
    (kk : kg_V G X nL N0 NX (pc + 1) ls (.int (M p j) :: st) w M) : kg_V G X nL N0 NX pc ls (.int (nI j) :: .ref p :: st) w M := by
  intro g1 g2 p' e R s m args below meth c' Qf hX H locs A hH hS hl
  obtain ⟨hx, hb, -, hown, hts, hI, -⟩ := hB _ _ _ _ _ _ _ _ _ _ hX
  rw [List.map_cons, List.map_cons, kg_cvref G hp]
  refine va_zald hx hb hI.1 hH.2 p 1 (by rw [kg_wl_at hpw, kg_ce_i hkd (by omega)]) rfl (vp_in_nI hj hn) hd ?_
  rw [nI_clamp (by omega)]
  exact kk g1 g2 p' e R s m args below meth c' Qf hX H locs A hH hS hl
theorem kg_r_cald (hB : kg_B G X own cc nL d ini N0 NX) {p n j : Nat} (hp : p < 1000) (hpw : p < w.1) (hkd : kg_kd p = (2, n)) (hj : j < n) (hn : n < 2 ^ 31) (hd : decode cc pc = .ok (.caload, 1))
    (kk : kg_V G X nL N0 NX (pc + 1) ls (.int (M p j) :: st) w M) : kg_V G X nL N0 NX pc ls (.int (nI j) :: .ref p :: st) w M := by
  intro g1 g2 p' e R s m args below meth c' Qf hX H locs A hH hS hl
  obtain ⟨hx, hb, -, hown, hts, hI, -⟩ := hB _ _ _ _ _ _ _ _ _ _ hX
  rw [List.map_cons, List.map_cons, kg_cvref G hp]
  refine va_cald hx hb hI.1 hH.2 p 2 (by rw [kg_wl_at hpw, kg_ce_i hkd (by omega)]) rfl (vp_in_nI hj hn) hd ?_
  rw [nI_clamp (by omega)]
  exact kk g1 g2 p' e R s m args below meth c' Qf hX H locs A hH hS hl
theorem kg_r_aald (hB : kg_B G X own cc nL d ini N0 NX) {p n j q : Nat} (hp : p < 1000) (hpw : p < w.1) (hkd : kg_kd p = (3, n)) (hj : j < n) (hn : n < 2 ^ 31) (hq : w.2 p j = q) (hq0 : q ≠ 0) (hq1 : q < 1000) (hd : decode cc pc = .ok (.aaload, 1))
    (kk : kg_V G X nL N0 NX (pc + 1) ls (.ref q :: st) w M) : kg_V G X nL N0 NX pc ls (.int (nI j) :: .ref p :: st) w M := by
  intro g1 g2 p' e R s m args below meth c' Qf hX H locs A hH hS hl
  obtain ⟨hx, hb, -, hown, hts, hI, -⟩ := hB _ _ _ _ _ _ _ _ _ _ hX
  rw [List.map_cons, List.map_cons, kg_cvref G hp]
  refine va_aldq hx hb hI.1 hH.2 p 3 (by rw [kg_wl_at hpw, kg_ce_q hkd]) rfl (vp_in_nI hj hn) hd ?_
  rw [nI_clamp (by omega), hq]
  have h9 := kk g1 g2 p' e R s m args below meth c' Qf hX H locs A hH hS hl
  rw [List.map_cons, kg_cvref G hq1] at h9
  simpa [kg_ro, hq0, va_rf] using h9
theorem kg_S_put {A : Nat → Prop} {H0 H H1 : Heap} {locs : List Loc} {b p k : Nat} (hS : va_S (fun q => b ≤ q) H0 H locs) (z : H1.size = H.size) (oq : ∀ q : Nat, q ≠ b + p → H1[q]? = H[q]?) : va_S (fun q => b ≤ q) H0 H1 (locs ++ [⟨b + p, k⟩]) := hS.put z oq (Nat.le_add_right b p)
theorem kg_r_iast (hB : kg_B G X own cc nL d ini N0 NX) {p n j : Nat} {x : Int32} (hp : p < 1000) (hpw : p < w.1) (hkd : kg_kd p = (0, n)) (hj : j < n) (hn : n < 2 ^ 31) (hd : decode cc pc = .ok (.iastore, 1))
    (kk : kg_V G X nL N0 NX (pc + 1) ls st w (kg_wr M p j x)) : kg_V G X nL N0 NX pc ls (.int x :: .int (nI j) :: .ref p :: st) w M := by
  intro g1 g2 p' e R s m args below meth c' Qf hX H locs A hH hS hl
  obtain ⟨hx, hb, -, hown, hts, hI, -⟩ := hB _ _ _ _ _ _ _ _ _ _ hX
  rw [List.map_cons, List.map_cons, List.map_cons, kg_cvref G hp]
  refine W.iast hx hb (hH.2 p (kg_b G + p, .inl (G.2.2.2.1 0, n, .inl (M p))) (by rw [kg_wl_at hpw, kg_ce_i hkd (by omega)])) ((hI.1.2 0 _ rfl).1 n (fun j => .int (M p j))) (fun q => by cases q) (by show ¬ (nI j < 0 ∨ (arrV _ _ _).slots.size ≤ _); rw [arrV_size]; exact vp_in_nI hj hn) rfl rfl hd fun H1 e1 z oq => ?_
  refine kk g1 g2 p' e R s m args below meth c' Qf hX H1 _ A (kg_WH_put hH rfl hpw z oq ?_ (fun q hq => kg_ce_wr hq)) (kg_S_put (A := kg_A G) hS z oq) hl
  rw [kg_ce_i hkd (by omega)]
  show H1[kg_b G + p]? = some (vp_cell _ _)
  rw [e1, vp_cell_i, vp_cell_i, arrV_store, kg_wr_upd, nI_clamp (by omega)]
  congr 2
  funext q
  by_cases hq : q = j <;> simp [updV, upd, hq]
theorem kg_r_zast (hB : kg_B G X own cc nL d ini N0 NX) {p n j : Nat} {x : Int32} (hp : p < 1000) (hpw : p < w.1) (hkd : kg_kd p = (1, n)) (hj : j < n) (hn : n < 2 ^ 31) (h01 : x = 0 ∨ x = 1) (hd : decode cc pc = .ok (.bastore, 1))
    (kk : kg_V G X nL N0 NX (pc + 1) ls st w (kg_wr M p j x)) : kg_V G X nL N0 NX pc ls (.int x :: .int (nI j) :: .ref p :: st) w M := by
  intro g1 g2 p' e R s m args below meth c' Qf hX H locs A hH hS hl
  obtain ⟨hx, hb, -, hown, hts, hI, -⟩ := hB _ _ _ _ _ _ _ _ _ _ hX
  rw [List.map_cons, List.map_cons, List.map_cons, kg_cvref G hp]
  refine W.zast hx hb (hH.2 p (kg_b G + p, .inl (G.2.2.2.1 1, n, .inl (M p))) (by rw [kg_wl_at hpw, kg_ce_i hkd (by omega)])) ((hI.1.2 1 _ rfl).1 n (fun j => .int (M p j))) (fun q => by cases q) (by show ¬ (nI j < 0 ∨ (arrV _ _ _).slots.size ≤ _); rw [arrV_size]; exact vp_in_nI hj hn) rfl rfl hd fun H1 e1 z oq => ?_
  refine kk g1 g2 p' e R s m args below meth c' Qf hX H1 _ A (kg_WH_put hH rfl hpw z oq ?_ (fun q hq => kg_ce_wr hq)) (kg_S_put (A := kg_A G) hS z oq) hl
  rw [kg_ce_i hkd (by omega)]
  have e2 : narrow .boolean (.int x) = .int x := by rcases h01 with rfl | rfl <;> rfl
  show H1[kg_b G + p]? = some (vp_cell _ _)
  rw [e1, e2, vp_cell_i, vp_cell_i, arrV_store, kg_wr_upd, nI_clamp (by omega)]
  congr 2
  funext q
  by_cases hq : q = j <;> simp [updV, upd, hq]
theorem kg_r_cast (hB : kg_B G X own cc nL d ini N0 NX) {p n j x : Nat} (hp : p < 1000) (hpw : p < w.1) (hkd : kg_kd p = (2, n)) (hj : j < n) (hn : n < 2 ^ 31) (h01 : x < 65536) (hd : decode cc pc = .ok (.castore, 1))
    (kk : kg_V G X nL N0 NX (pc + 1) ls st w (kg_wr M p j (nI x))) : kg_V G X nL N0 NX pc ls (.int (nI x) :: .int (nI j) :: .ref p :: st) w M := by
  intro g1 g2 p' e R s m args below meth c' Qf hX H locs A hH hS hl
  obtain ⟨hx, hb, -, hown, hts, hI, -⟩ := hB _ _ _ _ _ _ _ _ _ _ hX
  rw [List.map_cons, List.map_cons, List.map_cons, kg_cvref G hp]
  refine W.cast hx hb (hH.2 p (kg_b G + p, .inl (G.2.2.2.1 2, n, .inl (M p))) (by rw [kg_wl_at hpw, kg_ce_i hkd (by omega)])) ((hI.1.2 2 _ rfl).1 n (fun j => .int (M p j))) (fun q => by cases q) (by show ¬ (nI j < 0 ∨ (arrV _ _ _).slots.size ≤ _); rw [arrV_size]; exact vp_in_nI hj hn) rfl rfl hd fun H1 e1 z oq => ?_
  refine kk g1 g2 p' e R s m args below meth c' Qf hX H1 _ A (kg_WH_put hH rfl hpw z oq ?_ (fun q hq => kg_ce_wr hq)) (kg_S_put (A := kg_A G) hS z oq) hl
  rw [kg_ce_i hkd (by omega)]
  have e2 : narrow .char (.int (nI x)) = .int (nI x) := (pk_charN h01).1
  show H1[kg_b G + p]? = some (vp_cell _ _)
  rw [e1, e2, vp_cell_i, vp_cell_i, arrV_store, kg_wr_upd, nI_clamp (by omega)]
  congr 2
  funext q
  by_cases hq : q = j <;> simp [updV, upd, hq]
theorem kg_r_aast (hB : kg_B G X own cc nL d ini N0 NX) {p n j q : Nat} (hp : p < 1000) (hpw : p < w.1) (hkd : kg_kd p = (3, n)) (hj : j < n) (hn : n < 2 ^ 31) (hq0 : q ≠ 0) (hq1 : q < 1000) (hqw : q < w.1) (hqk : kg_kd q = (4, 4)) (hd : decode cc pc = .ok (.aastore, 1))
    (kk : kg_V G X nL N0 NX (pc + 1) ls st (kg_wrr w p j q) M) : kg_V G X nL N0 NX pc ls (.ref q :: .int (nI j) :: .ref p :: st) w M := by
  intro g1 g2 p' e R s m args below meth c' Qf hX H locs A hH hS hl
  obtain ⟨hx, hb, -, hown, hts, hI, -⟩ := hB _ _ _ _ _ _ _ _ _ _ hX
  rw [List.map_cons, List.map_cons, List.map_cons, kg_cvref G hp, kg_cvref G hq1]
  obtain ⟨r', hr', cellV, s1, s2, s3, -⟩ := hH.2 q (kg_b G + q, .inr (4, kg_fs (kg_b G) w M q 4)) (by rw [kg_wl_at hqw, kg_ce_o hqk])
  have hcls := (hI.1.1 4 _ (kg_F_cl (c := 4) (by omega))).2
  obtain ⟨kA, comp, k1, k2, k3, -⟩ := (hI.1.2 3 _ rfl).2
  have hcomp : comp = G.2.2.1.1 4 := Option.some.inj (k3.symm.trans hcls.1)
  subst hcomp
  obtain ⟨kC, hkC, -⟩ := hcls.2
  refine W.aast hx hb (hH.2 p (kg_b G + p, .inl (G.2.2.2.1 3, n, .inr (.inr (.inr (.inr (fun i => kg_ro (kg_b G) (w.2 p i))))))) (by rw [kg_wl_at hpw, kg_ce_q hkd])) (fun q h => by cases h) (fun h => by cases h) k1 k2 rfl hkC ⟨(nI_pos (by omega)), by show _ < (arrV _ _ _).slots.size; rw [arrV_size, nI_clamp (by omega)]; exact hj⟩ s1 (fun q h => by rw [s3] at h; cases h) (by rw [s2]; exact hkC) (by rw [s2]; exact va_assign hcls) rfl rfl hd fun H1 e1 z oq => ?_
  have g1' : N0 ≤ (kg_wrr w p j q).1 := g1
  refine kk g1 g2 p' e R s m args below meth c' Qf hX H1 _ A (kg_WH_put hH rfl hpw z oq ?_ (fun q hq => kg_ce_wrr hq)) (kg_S_put (A := kg_A G) hS z oq) hl
  rw [kg_ce_q hkd]
  show H1[kg_b G + p]? = some (vp_cell _ _)
  rw [e1, vp_cell_q, vp_cell_q, arrV_store, nI_clamp (by omega)]
  congr 2
  funext i
  by_cases hi : i = j <;> simp [updV, hi, kg_wrr, kg_ro, hq0, va_rf]
end
end
section
/-! ROWS of statics, the script, what is made, Math, arraycopy -/
theorem kg_cats (G : kg_G) (st : List Value) : ((st.map (kg_cv G)).map fun v => v.category).sum = st.length := by
  induction st with
  | nil => rfl
  | cons a l ih => rw [List.map_cons, List.map_cons, List.sum_cons, ih, kg_cat, List.length_cons]; omega
section
variable {G : kg_G} {X : kg_Xt} {own : String} {cc : ByteArray} {nL d : Nat} {ini : Bool} {N0 NX : Nat} {pc : Nat} {ls : List (Option Value)} {st : List Value} {w : kg_W} {M : kg_M}
theorem kg_cvst (G : kg_G) {p : Nat} (h : ¬ p < 1000) : kg_cv G (.ref p) = .ref (G.2.2.2.2.1 (p - 1000)) := by simp [kg_cv, h]
theorem kg_r_gets (hB : kg_B G X own cc nL d ini N0 NX) {p i : Nat} (hp : p ∈ [1001, 1002, 1003]) (hln : Cond.fieldLink own i "KeyGraves" (kg_sn p) "[I" ∈ kg_T ∨ (own = "KeyGraves$State" ∧ i = 56 ∧ p = 1003)) (hd : decode cc pc = .ok (.getstatic i, 3))
    (kk : kg_V G X nL N0 NX (pc + 3) ls (.ref p :: st) w M) : kg_V G X nL N0 NX pc ls st w M := by
  intro g1 g2 p' e R s m args below meth c' Qf hX H locs A hH hS hl
  obtain ⟨hx, hb, -, hown, hts, hI, hSt, -⟩ := hB _ _ _ _ _ _ _ _ _ _ hX
  have hp0 : ¬ p < 1000 := by simp at hp; omega
  have k2 := kk g1 g2 p' e R s m args below meth c' Qf hX H locs A hH hS hl
  rw [List.map_cons, kg_cvst G hp0] at k2
  rcases hln with hln | ⟨rfl, rfl, rfl⟩
  · exact va_gets hx hb (hSt.1 p hp).1 hS hown (hts _ hln) (fun _ h => h) hd k2
  · exact va_getsN hx hb (hSt.1 1003 hp).1 hS hown (va_Nw.use rfl hI.2.2.1) (fun _ h => h) hd k2
theorem kg_r_ilds (hB : kg_B G X own cc nL d ini N0 NX) {p j : Nat} (hp : p ∈ [1001, 1002, 1003]) (hj : j < 5) (hd : decode cc pc = .ok (.iaload, 1))
    (kk : kg_V G X nL N0 NX (pc + 1) ls (.int (kg_sv p j) :: st) w M) : kg_V G X nL N0 NX pc ls (.int (nI j) :: .ref p :: st) w M := by
  intro g1 g2 p' e R s m args below meth c' Qf hX H locs A hH hS hl
  obtain ⟨hx, hb, -, hown, hts, hI, hSt, -⟩ := hB _ _ _ _ _ _ _ _ _ _ hX
  have hp0 : ¬ p < 1000 := by simp at hp; omega
  rw [List.map_cons, List.map_cons, kg_cvst G hp0]
  exact va_ti hx hb (hSt.1 p hp).2 hS (vp_in_nI hj (by omega)) (by rw [nI_clamp (by omega)]; rfl) hd (kk g1 g2 p' e R s m args below meth c' Qf hX H locs A hH hS hl)
theorem kg_r_ildx (hB : kg_B G X own cc nL d ini N0 NX) {j : Nat} (hj : j < G.2.2.2.2.2.1) (hL : G.2.2.2.2.2.1 < 2 ^ 31) (hd : decode cc pc = .ok (.iaload, 1))
    (kk : kg_V G X nL N0 NX (pc + 1) ls (.int (G.2.2.2.2.2.2 j) :: st) w M) : kg_V G X nL N0 NX pc ls (.int (nI j) :: .ref 1000 :: st) w M := by
  intro g1 g2 p' e R s m args below meth c' Qf hX H locs A hH hS hl
  obtain ⟨hx, hb, -, hown, hts, hI, hSt, hbs, -⟩ := hB _ _ _ _ _ _ _ _ _ _ hX
  rw [List.map_cons, List.map_cons, kg_cvst G (by omega)]
  refine va_sld (b := G.2.2.2.2.1 0) hx hb hSt.2.1 (Nat.lt_of_lt_of_le hSt.2.2 hbs) (Nat.not_le.mpr hSt.2.2) hS (vp_in_nI hj hL) hd ?_
  rw [nI_clamp (by omega)]
  exact kk g1 g2 p' e R s m args below meth c' Qf hX H locs A hH hS hl
theorem kg_r_slen (hB : kg_B G X own cc nL d ini N0 NX) (hd : decode cc pc = .ok (.arraylength, 1))
    (kk : kg_V G X nL N0 NX (pc + 1) ls (.int (nI G.2.2.2.2.2.1) :: st) w M) : kg_V G X nL N0 NX pc ls (.ref 1000 :: st) w M := by
  intro g1 g2 p' e R s m args below meth c' Qf hX H locs A hH hS hl
  obtain ⟨hx, hb, -, hown, hts, hI, hSt, hbs, -⟩ := hB _ _ _ _ _ _ _ _ _ _ hX
  rw [List.map_cons, kg_cvst G (by omega)]
  exact va_slen (b := G.2.2.2.2.1 0) hx hb hSt.2.1 (Nat.lt_of_lt_of_le hSt.2.2 hbs) (Nat.not_le.mpr hSt.2.2) hS hd (kk g1 g2 p' e R s m args below meth c' Qf hX H locs A hH hS hl)
theorem kg_r_mmin (hB : kg_B G X own cc nL d ini N0 NX) {i : Nat} {x y : Int32} (hd0 : 1 ≤ d) (hst : st.length ≤ 8) (h1 : Cond.methodLink own i Lib.Math.min.name ∈ kg_T) (h2 : Cond.static Lib.Math.min.name ∈ kg_T) (h3 : Cond.initialized "java/lang/Math" ∈ kg_T) (h4 : Cond.code Lib.Math.min.name Lib.Math.min.code 2 (some .int) ∈ kg_T) (hd : decode cc pc = .ok (.invokestatic i, 3))
    (kk : kg_V G X nL N0 NX (pc + 3) ls (.int (if y < x then y else x) :: st) w M) : kg_V G X nL N0 NX pc ls (.int y :: .int x :: st) w M := by
  intro g1 g2 p' e R s m args below meth c' Qf hX H locs A hH hS hl
  obtain ⟨hx, hb, hml, hown, hts, hI, hSt, hbs, ⟨hf1, hf2⟩, ⟨hc1, hc2⟩, -⟩ := hB _ _ _ _ _ _ _ _ _ _ hX
  exact va_mmin hx hb (hml.trans hl.1.symm) hown (hts _ h1) (hts _ h2) (hts _ h3) (hts _ h4) (Nat.le_trans hd0 hf1) (by rw [kg_cats]; omega) (Nat.le_trans (Nat.sub_le_sub_right g2 _) hc1) (Nat.le_trans (Nat.sub_le_sub_right (kg_sz_mono g2) _) hc2) hd (kk g1 g2 p' e R s m args below meth c' Qf hX H locs A hH hS hl)
theorem kg_r_mmax (hB : kg_B G X own cc nL d ini N0 NX) {i : Nat} {x y : Int32} (hd0 : 1 ≤ d) (hst : st.length ≤ 8) (h1 : Cond.methodLink own i Lib.Math.max.name ∈ kg_T) (h2 : Cond.static Lib.Math.max.name ∈ kg_T) (h3 : Cond.initialized "java/lang/Math" ∈ kg_T) (h4 : Cond.code Lib.Math.max.name Lib.Math.max.code 2 (some .int) ∈ kg_T) (hd : decode cc pc = .ok (.invokestatic i, 3))
    (kk : kg_V G X nL N0 NX (pc + 3) ls (.int (if x < y then y else x) :: st) w M) : kg_V G X nL N0 NX pc ls (.int y :: .int x :: st) w M := by
  intro g1 g2 p' e R s m args below meth c' Qf hX H locs A hH hS hl
  obtain ⟨hx, hb, hml, hown, hts, hI, hSt, hbs, ⟨hf1, hf2⟩, ⟨hc1, hc2⟩, -⟩ := hB _ _ _ _ _ _ _ _ _ _ hX
  exact va_mmax hx hb (hml.trans hl.1.symm) hown (hts _ h1) (hts _ h2) (hts _ h3) (hts _ h4) (Nat.le_trans hd0 hf1) (by rw [kg_cats]; omega) (Nat.le_trans (Nat.sub_le_sub_right g2 _) hc1) (Nat.le_trans (Nat.sub_le_sub_right (kg_sz_mono g2) _) hc2) hd (kk g1 g2 p' e R s m args below meth c' Qf hX H locs A hH hS hl)
/-- a row of ints copied onto another, the first n -/
def kg_cpy (M : kg_M) (p q n : Nat) : kg_M := fun r => if r = q then (fun i => if i < n then M p i else M q i) else M r
theorem kg_r_copy (hB : kg_B G X own cc nL d ini N0 NX) {i p q n n0 n1 : Nat} (hw9 : ¬ w.1 < 129) (hd0 : 1 ≤ d) (hst : st.length ≤ 6) (h1 : Cond.methodLink own i arraycopyName ∈ kg_T) (h2 : Cond.native arraycopyName ∈ kg_T) (h3 : Cond.static arraycopyName ∈ kg_T) (h4 : Cond.initialized "java/lang/System" ∈ kg_T) (hp : p < 1000) (hpw : p < w.1) (hpk : kg_kd p = (0, n0)) (hq : q < 1000) (hqw : q < w.1) (hqk : kg_kd q = (0, n1)) (hn0 : n ≤ n0) (hn1 : n ≤ n1) (hn : n < 2 ^ 31) (hd : decode cc pc = .ok (.invokestatic i, 3))
    (kk : kg_V G X nL N0 NX (pc + 3) ls st w (kg_cpy M p q n)) : kg_V G X nL N0 NX pc ls (.int (nI n) :: .int (nI 0) :: .ref q :: .int (nI 0) :: .ref p :: st) w M := by
  intro g1 g2 p' e R s m args below meth c' Qf hX H locs A hH hS hl
  obtain ⟨hx, hb, hml, hown, hts, hI, hSt, hbs, ⟨hf1, hf2⟩, ⟨hc1, hc2⟩, -⟩ := hB _ _ _ _ _ _ _ _ _ _ hX
  simp only [List.map_cons]
  rw [kg_cvref G hp, kg_cvref G hq]
  refine va_copyi hx hb (hml.trans hl.1.symm) hown (hts _ h1) (hts _ h2) (hts _ h3) (hts _ h4) hI.1 hH.2 (kg_dis G w M) hS p q 0 0 (f := M p) (g := M q) (by rw [kg_wl_at hpw, kg_ce_i hpk (by omega)]) (by rw [kg_wl_at hqw, kg_ce_i hqk (by omega)]) rfl rfl rfl (sp := nI 0) (dp := nI 0) (n := nI n) (nI_pos (by omega)) (nI_pos (by omega)) (nI_pos hn) (by rw [nI_clamp (by omega), nI_clamp hn]; omega) (by rw [nI_clamp (by omega), nI_clamp hn]; omega) (fun _ _ => rfl) (Nat.le_trans hd0 hf1) (by rw [kg_cats]; simp [nativeFrameWords]; omega) hd (fun H1 locs1 hP1 _ hS1 => ?_)
  refine kk g1 g2 p' e R s m args below meth c' Qf hX H1 locs1 A ⟨fun h => absurd h hw9, ?_⟩ hS1 hl
  rw [← kg_wl_set (M := M) (w := w) (p := q) (e := .inl (G.2.2.2.1 0, n1, .inl (va_cpy (M p) (M q) (nI 0).toNatClampNeg (nI 0).toNatClampNeg (nI n).toNatClampNeg))) rfl ?_ (fun r hr => kg_ce_same (by simp [kg_cpy, hr]) rfl)]
  · exact hP1
  · rw [kg_ce_i hqk (by omega)]
    congr 4
    funext k
    rw [nI_clamp hn, nI_clamp (by omega)]
    by_cases hk : k < n <;> simp [va_cpy, kg_cpy, hk]
theorem kg_r_obj (hB : kg_B G X own cc nL d ini N0 NX) {i p : Nat} (hd0 : 1 ≤ d) (hst : st.length ≤ 8) (h1 : Cond.methodLink own i Lib.objectInit ∈ kg_T) (h2 : Cond.instanceMethod Lib.objectInit ∈ kg_T) (h3 : Cond.code Lib.objectInit ⟨#[0xb1]⟩ 1 none ∈ kg_T) (hd : decode cc pc = .ok (.invokespecial i, 3))
    (kk : kg_V G X nL N0 NX (pc + 3) ls st w M) : kg_V G X nL N0 NX pc ls (.ref p :: st) w M := by
  intro g1 g2 p' e R s m args below meth c' Qf hX H locs A hH hS hl
  obtain ⟨hx, hb, hml, hown, hts, hI, hSt, hbs, ⟨hf1, hf2⟩, ⟨hc1, hc2⟩, -⟩ := hB _ _ _ _ _ _ _ _ _ _ hX
  have k2 := kk g1 g2 p' e R s m args below meth c' Qf hX H locs A hH hS hl
  have hr := kg_cats G st
  refine W.objInit hx hb hown (hts _ h1) (hts _ h2) (hts _ h3) rfl (hl.1.trans hml.symm) (rest := st.map (kg_cv G)) (a := if p < 1000 then kg_b G + p else G.2.2.2.2.1 (p - 1000)) rfl hd (Nat.le_trans hd0 hf1) ?_ ?_
  · show 2 * 0 + _ + 12 ≤ _
    rw [hr]; omega
  · exact k2
/-- a cell is made: the next place -/
theorem kg_WH_new {w w' : kg_W} {M M' : kg_M} {H H1 : Heap} (hH : kg_WH G w M H) (h9 : w.1 < 129) (hw : w'.1 = w.1 + 1) (z : H1.size = H.size + 1) (oq : ∀ q : Nat, q < H.size → H1[q]? = H[q]?) (he : va_at G.2.2.1 vwCl (kg_b G + w.1, kg_ce (kg_b G) G.2.2.2.1 w' M' w.1) H1) (ho : ∀ q, q < w.1 → kg_ce (kg_b G) G.2.2.2.1 w' M' q = kg_ce (kg_b G) G.2.2.2.1 w M q) : kg_WH G w' M' H1 := by
  refine ⟨fun _ => by rw [z, hH.1 h9, hw]; omega, fun k q hk => ?_⟩
  obtain ⟨h1, h2⟩ := kg_wl_of hk
  subst h2
  by_cases hkw : k = w.1
  · subst hkw; exact he
  · have hlt : k < w.1 := by omega
    rw [ho k hlt]
    have h3 := hH.2 k _ (kg_wl_at hlt)
    exact h3.kept (oq _ h3.lt)
def kg_new (w : kg_W) (r : Nat → Nat) : kg_W := (w.1 + 1, fun q => if q = w.1 then r else w.2 q)
def kg_row (M : kg_M) (p : Nat) (f : Nat → Int32) : kg_M := fun q => if q = p then f else M q
theorem kg_ce_new {b : Nat} {cA : Nat → ClassId} {w : kg_W} {M : kg_M} {r : Nat → Nat} {f : Nat → Int32} {q : Nat} (h : q ≠ w.1) : kg_ce b cA (kg_new w r) (kg_row M w.1 f) q = kg_ce b cA w M q := kg_ce_same (by simp [kg_row, h]) (by simp [kg_new, h])
theorem kg_S_new {b : Nat} {H0 H H1 : Heap} {locs : List Loc} (hS : va_S (fun q => b ≤ q) H0 H locs) (z : H1.size = H.size + 1) (oq : ∀ q : Nat, q < H.size → H1[q]? = H[q]?) : va_S (fun q => b ≤ q) H0 H1 locs := ⟨by rw [z]; exact Nat.le_trans hS.1 (Nat.le_succ _), fun q a1 a2 => (oq q (Nat.lt_of_lt_of_le a1 hS.1)).trans (hS.2.1 q a1 a2), hS.2.2⟩
theorem kg_r_new (hB : kg_B G X own cc nL d ini N0 NX) {c i : Nat} (h9 : w.1 < 129) (hNX : w.1 + 1 ≤ NX) (hc : c < 7) (hkd : kg_kd w.1 = (4, c)) (h1 : Cond.classLink own i (kg_C c) ∈ kg_T) (h2 : Cond.instantiable (kg_C c) (kg_nf c) ∈ kg_T) (h3 : Cond.initialized (kg_C c) ∈ kg_T) (hdef : ∀ k, k < kg_nf c → defaultValue (kg_ft c k) = if kg_fr c k = true then .null else .int 0) (hd : decode cc pc = .ok (.new i, 3))
    (kk : kg_V G X nL N0 NX (pc + 3) ls (.ref w.1 :: st) (kg_new w (fun _ => 0)) (kg_row M w.1 (fun _ => 0))) : kg_V G X nL N0 NX pc ls st w M := by
  intro g1 g2 p' e R s m args below meth c' Qf hX H locs A hH hS hl
  obtain ⟨hx, hb, hml, hown, hts, hI, hSt, hbs, ⟨hf1, hf2⟩, ⟨hc1, hc2⟩, -⟩ := hB _ _ _ _ _ _ _ _ _ _ hX
  have hKn := hI.1.1 c _ (kg_F_cl hc)
  have zs : kg_zs w.1 = kg_nf c := by simp [kg_zs, hkd]
  have m0 := kg_sz_mono g1
  have m1 := kg_sz_mono hNX
  have e0 : kg_sz (w.1 + 1) = kg_sz w.1 + kg_nf c := by rw [kg_sz, zs]
  refine W.newcK hx hb hown (hts _ h1) (hts _ h2) (hts _ h3) rfl hd (by omega) (by omega) hKn.2.1 (hH.1 h9) fun H1 kC hkC e1 z1 o1 => ?_
  have g1' : N0 ≤ (kg_new w (fun _ => 0)).1 := Nat.le_succ_of_le g1
  have g2' : (kg_new w (fun _ => 0)).1 ≤ NX := hNX
  have hz : H1.size = H.size + 1 := by rw [z1, hH.1 h9]
  have ho : ∀ q : Nat, q < H.size → H1[q]? = H[q]? := fun q hq => o1 q (by rw [← hH.1 h9]; exact hq)
  have k2 := kk g1' g2' p' e R s m args below meth c' Qf hX H1 locs A (kg_WH_new hH h9 rfl hz ho ?_ (fun q hq => kg_ce_new (Nat.ne_of_lt hq))) (kg_S_new hS hz ho) hl
  · rw [List.map_cons, kg_cvref G (by omega), show (kg_new w (fun _ => 0)).1 = w.1 + 1 from rfl, e0, show w.1 + 1 - N0 = w.1 - N0 + 1 by omega, show kg_sz w.1 + kg_nf c - kg_sz N0 = kg_sz w.1 - kg_sz N0 + kg_nf c by omega] at k2
    exact k2
  · rw [kg_ce_o hkd]
    refine ⟨_, kg_F_cl hc, (u_born (kg_ft c) hts (kg_F_in hc) hKn hkC e1 (kg_F_ty hc)).to fun k hk => ?_⟩
    show defaultValue (kg_ft c k) = vp_V _ k
    rw [hdef k hk, vp_V, List.getD_eq_getElem?_getD, kg_fs_at hk]
    by_cases hf : kg_fr c k = true <;> simp [hf, kg_new, kg_row, kg_ro, va_rf]
theorem kg_r_newa (hB : kg_B G X own cc nL d ini N0 NX) {t n : Nat} {aty : ArrayType} {ty : FieldType} (h9 : w.1 < 129) (hNX : w.1 + 1 ≤ NX) (hkd : kg_kd w.1 = (t, n)) (ht : t < 3) (hty : newarray.typeOf aty = ty) (htt : (kg_tys G.2.2.2.1)[t]? = some (G.2.2.2.1 t, ty)) (hra : ∀ (U : State) (cA : ClassId), va_RA U cA ty → U.vm.findClass ("[" ++ ty.toString) = some cA) (hdv : defaultValue ty = .int 0) (hn : n < 2 ^ 20) (hcb : componentBytes ty ≤ 8) (h1 : Cond.arrayClass ty ∈ kg_T) (hd : decode cc pc = .ok (.newarray aty, 2))
    (kk : kg_V G X nL N0 NX (pc + 2) ls (.ref w.1 :: st) (kg_new w (fun _ => 0)) (kg_row M w.1 (fun _ => 0))) : kg_V G X nL N0 NX pc ls (.int (nI n) :: st) w M := by
  intro g1 g2 p' e R s m args below meth c' Qf hX H locs A hH hS hl
  obtain ⟨hx, hb, hml, hown, hts, hI, hSt, hbs, ⟨hf1, hf2⟩, ⟨hc1, hc2⟩, -⟩ := hB _ _ _ _ _ _ _ _ _ _ hX
  subst hty
  have zs : kg_zs w.1 = n := by simp only [kg_zs, hkd]; rw [if_neg (by omega)]
  have m0 := kg_sz_mono g1
  have m1 := kg_sz_mono hNX
  have e0 : kg_sz (w.1 + 1) = kg_sz w.1 + n := by rw [kg_sz, zs]
  have hb8 : n * componentBytes (newarray.typeOf aty) ≤ 2 ^ 20 * 8 := Nat.mul_le_mul (Nat.le_of_lt hn) hcb
  rw [List.map_cons]
  refine va_newaK hx hb (atype := aty) (hts _ h1) rfl hd rfl (nI_pos (by omega)) (nI_clamp (n := n) (by omega)) (by omega) (by omega) (by omega) (hH.1 h9) fun H1 cA e1 z1 o1 hAr hNm => ?_
  have hcA : cA = G.2.2.2.1 t := Option.some.inj (hNm.symm.trans (hra s _ (hI.1.2 t _ htt).2))
  subst hcA
  have g1' : N0 ≤ (kg_new w (fun _ => 0)).1 := Nat.le_succ_of_le g1
  have g2' : (kg_new w (fun _ => 0)).1 ≤ NX := hNX
  have hz : H1.size = H.size + 1 := by rw [z1, hH.1 h9]
  have ho : ∀ q : Nat, q < H.size → H1[q]? = H[q]? := fun q hq => o1 q (by rw [← hH.1 h9]; exact hq)
  have k2 := kk g1' g2' p' e R s m args below meth c' Qf hX H1 locs A (kg_WH_new hH h9 rfl hz ho ?_ (fun q hq => kg_ce_new (Nat.ne_of_lt hq))) (kg_S_new hS hz ho) hl
  · rw [List.map_cons, kg_cvref G (by omega), show (kg_new w (fun _ => 0)).1 = w.1 + 1 from rfl, e0, show w.1 + 1 - N0 = w.1 - N0 + 1 by omega, show kg_sz w.1 + n - kg_sz N0 = kg_sz w.1 - kg_sz N0 + n by omega] at k2
    exact k2
  · rw [kg_ce_i hkd ht]
    show H1[_]? = some (vp_cell _ _)
    rw [e1, vp_cell_i, hdv]
    simp [kg_row]
theorem kg_r_anew (hB : kg_B G X own cc nL d ini N0 NX) {i n : Nat} (h9 : w.1 < 129) (hNX : w.1 + 1 ≤ NX) (hkd : kg_kd w.1 = (3, n)) (hn : n < 2 ^ 20) (h1 : Cond.classLink own i "KeyGraves$State" ∈ kg_T) (hd : decode cc pc = .ok (.anewarray i, 3))
    (kk : kg_V G X nL N0 NX (pc + 3) ls (.ref w.1 :: st) (kg_new w (fun _ => 0)) (kg_row M w.1 (fun _ => 0))) : kg_V G X nL N0 NX pc ls (.int (nI n) :: st) w M := by
  intro g1 g2 p' e R s m args below meth c' Qf hX H locs A hH hS hl
  obtain ⟨hx, hb, hml, hown, hts, hI, hSt, hbs, ⟨hf1, hf2⟩, ⟨hc1, hc2⟩, -⟩ := hB _ _ _ _ _ _ _ _ _ _ hX
  have zs : kg_zs w.1 = n := by simp only [kg_zs, hkd]; rw [if_neg (by omega)]
  have m0 := kg_sz_mono g1
  have m1 := kg_sz_mono hNX
  have e0 : kg_sz (w.1 + 1) = kg_sz w.1 + n := by rw [kg_sz, zs]
  rw [List.map_cons]
  have hcl : (nI n).toNatClampNeg = n := nI_clamp (by omega)
  refine W.anew hx hb hown (hts _ h1) (va_AO.use hI.2.2.2) rfl hd rfl (nI_pos (by omega)) (by rw [hcl]; omega) (by omega) (by rw [hcl]; omega) fun cA kA comp f1 f2 f3 f4 => ?_
  have hcA : cA = G.2.2.2.1 3 := by
    obtain ⟨kA', comp', -, -, -, k4⟩ := (hI.1.2 3 _ rfl).2
    exact Option.some.inj (f1.symm.trans k4)
  subst hcA
  rw [hcl]
  generalize hH1 : H.push ({ cls := G.2.2.2.1 3, slots := Array.replicate n .null, vm := .none } : Cell) = H1
  have hz : H1.size = H.size + 1 := by rw [← hH1, Array.size_push]
  have e1 : H1[H.size]? = some (arrV (G.2.2.2.1 3) n (fun _ => .null)) := by rw [← hH1, Array.getElem?_push_size, ← arrV_new]
  have ho : ∀ q : Nat, q < H.size → H1[q]? = H[q]? := fun q hq => by rw [← hH1, Array.getElem?_push, if_neg (Nat.ne_of_lt hq)]
  have g1' : N0 ≤ (kg_new w (fun _ => 0)).1 := Nat.le_succ_of_le g1
  have g2' : (kg_new w (fun _ => 0)).1 ≤ NX := hNX
  have k2 := kk g1' g2' p' e R s m args below meth c' Qf hX H1 locs A (kg_WH_new hH h9 rfl hz ho ?_ (fun q hq => kg_ce_new (Nat.ne_of_lt hq))) (kg_S_new hS hz ho) hl
  · rw [List.map_cons, kg_cvref G (by omega), show (kg_new w (fun _ => 0)).1 = w.1 + 1 from rfl, e0, show w.1 + 1 - N0 = w.1 - N0 + 1 by omega, show kg_sz w.1 + n - kg_sz N0 = kg_sz w.1 - kg_sz N0 + n by omega] at k2
    rw [hH.1 h9]
    exact k2
  · rw [kg_ce_q hkd]
    show H1[_]? = some (vp_cell _ _)
    rw [← hH.1 h9, e1, vp_cell_q]
    simp [kg_new, kg_ro, va_rf]
end
end
section
/-! TABLES: the methods by number, field links, method links (printed by wip/whole/gen06.py) -/
def kg_ms : List (MethodName × ByteArray × Nat × Option FieldType) := [(yX0_init, cX0_init, 1, none), (yX0_copyFrom, cX0_copyFrom, 2, none), (yX0_add, cX0_add, 5, none), (yX0_placeOf, cX0_placeOf, 2, (some .int)), (yX1_init, cX1_init, 1, none), (yX1_copyFrom, cX1_copyFrom, 2, none), (yX1_put, cX1_put, 5, none), (yX1_kindAt, cX1_kindAt, 2, (some .int)), (yX1_take, cX1_take, 4, none), (yX1_valueAt, cX1_valueAt, 2, (some .int)), (yX1_forget, cX1_forget, 2, none), (yX2_init, cX2_init, 1, none), (yX2_copyFrom, cX2_copyFrom, 2, none), (yX2_add, cX2_add, 4, none), (yX3_init, cX3_init, 1, none), (yX3_fault, cX3_fault, 5, (some .int)), (yX3_placeBehind, cX3_placeBehind, 3, (some .int)), (yX3_isNodeSign, cX3_isNodeSign, 1, (some .boolean)), (yX3_isDigit, cX3_isDigit, 1, (some .boolean)), (yX3_repairs, cX3_repairs, 3, (some .int)), (yX3_fill, cX3_fill, 7, none), (yX4_init, cX4_init, 2, none), (yX4_copyFrom, cX4_copyFrom, 3, none), (yX4_nodesUp, cX4_nodesUp, 3, (some .int)), (yX4_spread, cX4_spread, 5, (some .int)), (yX4_reach, cX4_reach, 5, none), (yX4_newestReached, cX4_newestReached, 5, (some .int)), (yX4_stampOf, cX4_stampOf, 3, (some .int)), (yX4_reachedDiffer, cX4_reachedDiffer, 4, (some .boolean)), (yX4_mend, cX4_mend, 4, none), (yX4_learn, cX4_learn, 5, none), (yX4_isHaunted, cX4_isHaunted, 3, (some .boolean)), (yX4_isGrave, cX4_isGrave, 3, (some .boolean)), (yX4_join, cX4_join, 5, (some .int)), (yX4_logPair, cX4_logPair, 4, none), (yX4_keysKnownOtherwise, cX4_keysKnownOtherwise, 5, (some .int)), (yX4_clearableGraves, cX4_clearableGraves, 4, (some .int)), (yX4_isClearable, cX4_isClearable, 3, (some .boolean)), (yX4_isRipe, cX4_isRipe, 3, (some .boolean)), (yX4_ticksSince, cX4_ticksSince, 3, (some .int)), (yX4_isRepairedSince, cX4_isRepairedSince, 4, (some .boolean)), (yX4_clearGraves, cX4_clearGraves, 4, (some .int)), (yX4_passTick, cX4_passTick, 5, (some .int)), (yX4_nodesWithTruth, cX4_nodesWithTruth, 4, (some .int)), (yX4_nodesHauntedBy, cX4_nodesHauntedBy, 4, (some .int)), (yX4_isSettledGrave, cX4_isSettledGrave, 4, (some .boolean)), (yX4_keysOfKind, cX4_keysOfKind, 5, (some .int)), (yX4_ripeGraves, cX4_ripeGraves, 4, (some .int)), (yX4_keysThatHaunt, cX4_keysThatHaunt, 4, (some .int)), (yX4_slowestPair, cX4_slowestPair, 6, (some .int)), (yX4_safeGrace, cX4_safeGrace, 4, (some .int)), (yX4_isUnsettledGrave, cX4_isUnsettledGrave, 3, (some .boolean)), (yX4_gravesOfAllNodes, cX4_gravesOfAllNodes, 3, (some .int)), (yX4_hauntingKeys, cX4_hauntingKeys, 3, (some .int)), (yX4_gravesNotSettled, cX4_gravesNotSettled, 4, (some .int)), (yX4_lowerNodeKnowsSame, cX4_lowerNodeKnowsSame, 4, (some .boolean)), (yX5_init, cX5_init, 2, none), (yX5_set, cX5_set, 4, (some .int)), (yX5_isSetting, cX5_isSetting, 1, (some .boolean)), (yX5_record, cX5_record, 3, none), (yX5_setUp, cX5_setUp, 3, (some .int)), (yX5_isNode, cX5_isNode, 1, (some .boolean)), (yX5_write, cX5_write, 4, (some .int)), (yX5_isKey, cX5_isKey, 1, (some .boolean)), (yX5_place, cX5_place, 2, (some .int)), (yX5_delete, cX5_delete, 3, (some .int)), (yX5_read, cX5_read, 4, (some .int)), (yX5_repair, cX5_repair, 3, (some .int)), (yX5_pairPlace, cX5_pairPlace, 2, (some .int)), (yX5_clear, cX5_clear, 2, (some .int)), (yX5_plan, cX5_plan, 4, (some .int)), (yX5_readPlan, cX5_readPlan, 2, (some .int)), (yX5_pass, cX5_pass, 4, (some .int)), (yX5_type, cX5_type, 2, (some .int)), (yX5_clearText, cX5_clearText, 2, (some .int)), (yX5_undo, cX5_undo, 1, (some .int)), (yX5_keep, cX5_keep, 1, (some .int)), (yX5_restore, cX5_restore, 1, (some .int)), (yX5_known, cX5_known, 7, (some .int)), (yX5_truth, cX5_truth, 4, (some .int)), (yX5_node, cX5_node, 3, (some .int)), (yX5_pair, cX5_pair, 5, (some .int)), (yX5_slowest, cX5_slowest, 1, (some .int)), (yX5_graceNeeded, cX5_graceNeeded, 1, (some .int)), (yX5_event, cX5_event, 5, (some .int)), (yX5_planned, cX5_planned, 4, (some .int)), (yX5_count, cX5_count, 2, (some .int)), (yX5_setting, cX5_setting, 2, (some .int)), (yX6_init, cX6_init, 2, none), (yX6_set, cX6_set, 4, (some .int)), (yX6_in, cX6_in, 3, (some .boolean)), (yX6_know, cX6_know, 2, none), (yX6_setUp, cX6_setUp, 3, (some .int)), (yX6_isNode, cX6_isNode, 1, (some .boolean)), (yX6_manyUp, cX6_manyUp, 1, (some .int)), (yX6_write, cX6_write, 4, (some .int)), (yX6_isKey, cX6_isKey, 1, (some .boolean)), (yX6_tells, cX6_tells, 7, (some .int)), (yX6_truthOf, cX6_truthOf, 2, (some .int)), (yX6_reached, cX6_reached, 7, (some .int)), (yX6_of, cX6_of, 3, (some .int)), (yX6_delete, cX6_delete, 3, (some .int)), (yX6_read, cX6_read, 7, (some .int)), (yX6_learn, cX6_learn, 6, none), (yX6_isHaunted, cX6_isHaunted, 3, (some .boolean)), (yX6_note, cX6_note, 5, none), (yX6_repair, cX6_repair, 3, (some .int)), (yX6_repairs, cX6_repairs, 6, (some .int)), (yX6_differing, cX6_differing, 5, (some .int)), (yX6_clear, cX6_clear, 5, (some .int)), (yX6_toClear, cX6_toClear, 4, (some .int)), (yX6_isCleared, cX6_isCleared, 5, (some .boolean)), (yX6_isRipe, cX6_isRipe, 3, (some .boolean)), (yX6_plan, cX6_plan, 4, (some .int)), (yX6_plans, cX6_plans, 5, (some .int)), (yX6_readPlan, cX6_readPlan, 2, (some .int)), (yX6_go, cX6_go, 10, (some .int)), (yX6_sign, cX6_sign, 4, (some .int)), (yX6_number, cX6_number, 3, (some .int)), (yX6_pass, cX6_pass, 10, (some .int)), (yX6_type, cX6_type, 2, (some .int)), (yX6_clearText, cX6_clearText, 2, (some .int)), (yX6_undo, cX6_undo, 2, (some .int)), (yX6_keep, cX6_keep, 2, (some .int)), (yX6_restore, cX6_restore, 2, (some .int)), (yX6_known, cX6_known, 5, (some .int)), (yX6_truth, cX6_truth, 7, (some .int)), (yX6_isSettled, cX6_isSettled, 5, (some .boolean)), (yX6_node, cX6_node, 3, (some .int)), (yX6_keysOf, cX6_keysOf, 6, (some .int)), (yX6_pair, cX6_pair, 4, (some .int)), (yX6_slowest, cX6_slowest, 4, (some .int)), (yX6_graceNeeded, cX6_graceNeeded, 5, (some .int)), (yX6_isOpen, cX6_isOpen, 3, (some .boolean)), (yX6_event, cX6_event, 3, (some .int)), (yX6_planned, cX6_planned, 3, (some .int)), (yX6_count, cX6_count, 2, (some .int)), (yX6_graves, cX6_graves, 3, (some .int)), (yX6_haunting, cX6_haunting, 3, (some .int)), (yX6_openGraves, cX6_openGraves, 6, (some .int)), (yX6_setting, cX6_setting, 2, (some .int))]
def kg_mt (i : Nat) : MethodName × ByteArray × Nat × Option FieldType := kg_ms.getD i (yX0_init, cX0_init, 1, none)
def kg_mc (i : Nat) : Nat := if i < 4 then 0 else if i < 11 then 1 else if i < 14 then 2 else if i < 21 then 3 else if i < 56 then 4 else if i < 88 then 5 else 6
def kg_cn (o : Nat) : String := if o = 7 then "KeyGravesLaw" else kg_C o
theorem kg_inT {w : Cond} (h : w ∈ lw_tbl) (g : goodWord w = true) : w ∈ kg_T := List.mem_filter.mpr ⟨h, g⟩
theorem kg_ci0 : Cond.code yX0_init cX0_init 1 none ∈ kg_T := kg_inT (List.mem_append_right _ (List.mem_append_left _ (List.mem_of_getElem? (i := 83) rfl : _ ∈ tables_1_1))) rfl
theorem kg_ci1 : Cond.code yX0_copyFrom cX0_copyFrom 2 none ∈ kg_T := kg_inT (List.mem_append_right _ (List.mem_append_left _ (List.mem_of_getElem? (i := 225) rfl : _ ∈ tables_1_1))) rfl
theorem kg_ci2 : Cond.code yX0_add cX0_add 5 none ∈ kg_T := kg_inT (List.mem_append_right _ (List.mem_append_right _ (List.mem_append_left _ (List.mem_of_getElem? (i := 67) rfl : _ ∈ tables_1_2)))) rfl
theorem kg_ci3 : Cond.code yX0_placeOf cX0_placeOf 2 (some .int) ∈ kg_T := kg_inT (List.mem_append_right _ (List.mem_append_right _ (List.mem_append_right _ (List.mem_append_left _ (List.mem_of_getElem? (i := 31) rfl : _ ∈ tables_1_3))))) rfl
theorem kg_ci4 : Cond.code yX1_init cX1_init 1 none ∈ kg_T := kg_inT (List.mem_append_right _ (List.mem_append_left _ (List.mem_of_getElem? (i := 28) rfl : _ ∈ tables_1_1))) rfl
theorem kg_ci5 : Cond.code yX1_copyFrom cX1_copyFrom 2 none ∈ kg_T := kg_inT (List.mem_append_right _ (List.mem_append_left _ (List.mem_of_getElem? (i := 215) rfl : _ ∈ tables_1_1))) rfl
theorem kg_ci6 : Cond.code yX1_put cX1_put 5 none ∈ kg_T := kg_inT (List.mem_append_right _ (List.mem_append_right _ (List.mem_append_left _ (List.mem_of_getElem? (i := 15) rfl : _ ∈ tables_1_2)))) rfl
theorem kg_ci7 : Cond.code yX1_kindAt cX1_kindAt 2 (some .int) ∈ kg_T := kg_inT (List.mem_append_right _ (List.mem_append_right _ (List.mem_append_left _ (List.mem_of_getElem? (i := 55) rfl : _ ∈ tables_1_2)))) rfl
theorem kg_ci8 : Cond.code yX1_take cX1_take 4 none ∈ kg_T := kg_inT (List.mem_append_right _ (List.mem_append_right _ (List.mem_append_left _ (List.mem_of_getElem? (i := 63) rfl : _ ∈ tables_1_2)))) rfl
theorem kg_ci9 : Cond.code yX1_valueAt cX1_valueAt 2 (some .int) ∈ kg_T := kg_inT (List.mem_append_right _ (List.mem_append_right _ (List.mem_append_left _ (List.mem_of_getElem? (i := 72) rfl : _ ∈ tables_1_2)))) rfl
theorem kg_ci10 : Cond.code yX1_forget cX1_forget 2 none ∈ kg_T := kg_inT (List.mem_append_right _ (List.mem_append_right _ (List.mem_append_left _ (List.mem_of_getElem? (i := 132) rfl : _ ∈ tables_1_2)))) rfl
theorem kg_ci11 : Cond.code yX2_init cX2_init 1 none ∈ kg_T := kg_inT (List.mem_append_right _ (List.mem_append_left _ (List.mem_of_getElem? (i := 55) rfl : _ ∈ tables_1_1))) rfl
theorem kg_ci12 : Cond.code yX2_copyFrom cX2_copyFrom 2 none ∈ kg_T := kg_inT (List.mem_append_right _ (List.mem_append_left _ (List.mem_of_getElem? (i := 220) rfl : _ ∈ tables_1_1))) rfl
theorem kg_ci13 : Cond.code yX2_add cX2_add 4 none ∈ kg_T := kg_inT (List.mem_append_right _ (List.mem_append_right _ (List.mem_append_left _ (List.mem_of_getElem? (i := 141) rfl : _ ∈ tables_1_2)))) rfl
theorem kg_ci14 : Cond.code yX3_init cX3_init 1 none ∈ kg_T := kg_inT (List.mem_append_right _ (List.mem_append_left _ (List.mem_of_getElem? (i := 159) rfl : _ ∈ tables_1_1))) rfl
theorem kg_ci15 : Cond.code yX3_fault cX3_fault 5 (some .int) ∈ kg_T := kg_inT (List.mem_append_right _ (List.mem_append_right _ (List.mem_append_left _ (List.mem_of_getElem? (i := 149) rfl : _ ∈ tables_1_2)))) rfl
theorem kg_ci16 : Cond.code yX3_placeBehind cX3_placeBehind 3 (some .int) ∈ kg_T := kg_inT (List.mem_append_right _ (List.mem_append_right _ (List.mem_append_left _ (List.mem_of_getElem? (i := 152) rfl : _ ∈ tables_1_2)))) rfl
theorem kg_ci17 : Cond.code yX3_isNodeSign cX3_isNodeSign 1 (some .boolean) ∈ kg_T := kg_inT (List.mem_append_right _ (List.mem_append_right _ (List.mem_append_left _ (List.mem_of_getElem? (i := 155) rfl : _ ∈ tables_1_2)))) rfl
theorem kg_ci18 : Cond.code yX3_isDigit cX3_isDigit 1 (some .boolean) ∈ kg_T := kg_inT (List.mem_append_right _ (List.mem_append_right _ (List.mem_append_left _ (List.mem_of_getElem? (i := 158) rfl : _ ∈ tables_1_2)))) rfl
theorem kg_ci19 : Cond.code yX3_repairs cX3_repairs 3 (some .int) ∈ kg_T := kg_inT (List.mem_append_right _ (List.mem_append_right _ (List.mem_append_left _ (List.mem_of_getElem? (i := 162) rfl : _ ∈ tables_1_2)))) rfl
theorem kg_ci20 : Cond.code yX3_fill cX3_fill 7 none ∈ kg_T := kg_inT (List.mem_append_right _ (List.mem_append_right _ (List.mem_append_left _ (List.mem_of_getElem? (i := 166) rfl : _ ∈ tables_1_2)))) rfl
theorem kg_ci21 : Cond.code yX4_init cX4_init 2 none ∈ kg_T := kg_inT (List.mem_append_right _ (List.mem_append_left _ (List.mem_of_getElem? (i := 22) rfl : _ ∈ tables_1_1))) rfl
theorem kg_ci22 : Cond.code yX4_copyFrom cX4_copyFrom 3 none ∈ kg_T := kg_inT (List.mem_append_right _ (List.mem_append_left _ (List.mem_of_getElem? (i := 208) rfl : _ ∈ tables_1_1))) rfl
theorem kg_ci23 : Cond.code yX4_nodesUp cX4_nodesUp 3 (some .int) ∈ kg_T := kg_inT (List.mem_append_right _ (List.mem_append_left _ (List.mem_of_getElem? (i := 237) rfl : _ ∈ tables_1_1))) rfl
theorem kg_ci24 : Cond.code yX4_spread cX4_spread 5 (some .int) ∈ kg_T := kg_inT (List.mem_append_right _ (List.mem_append_right _ (List.mem_append_left _ (List.mem_of_getElem? (i := 8) rfl : _ ∈ tables_1_2)))) rfl
theorem kg_ci25 : Cond.code yX4_reach cX4_reach 5 none ∈ kg_T := kg_inT (List.mem_append_right _ (List.mem_append_right _ (List.mem_append_left _ (List.mem_of_getElem? (i := 19) rfl : _ ∈ tables_1_2)))) rfl
theorem kg_ci26 : Cond.code yX4_newestReached cX4_newestReached 5 (some .int) ∈ kg_T := kg_inT (List.mem_append_right _ (List.mem_append_right _ (List.mem_append_left _ (List.mem_of_getElem? (i := 31) rfl : _ ∈ tables_1_2)))) rfl
theorem kg_ci27 : Cond.code yX4_stampOf cX4_stampOf 3 (some .int) ∈ kg_T := kg_inT (List.mem_append_right _ (List.mem_append_right _ (List.mem_append_left _ (List.mem_of_getElem? (i := 35) rfl : _ ∈ tables_1_2)))) rfl
theorem kg_ci28 : Cond.code yX4_reachedDiffer cX4_reachedDiffer 4 (some .boolean) ∈ kg_T := kg_inT (List.mem_append_right _ (List.mem_append_right _ (List.mem_append_left _ (List.mem_of_getElem? (i := 39) rfl : _ ∈ tables_1_2)))) rfl
theorem kg_ci29 : Cond.code yX4_mend cX4_mend 4 none ∈ kg_T := kg_inT (List.mem_append_right _ (List.mem_append_right _ (List.mem_append_left _ (List.mem_of_getElem? (i := 43) rfl : _ ∈ tables_1_2)))) rfl
theorem kg_ci30 : Cond.code yX4_learn cX4_learn 5 none ∈ kg_T := kg_inT (List.mem_append_right _ (List.mem_append_right _ (List.mem_append_left _ (List.mem_of_getElem? (i := 47) rfl : _ ∈ tables_1_2)))) rfl
theorem kg_ci31 : Cond.code yX4_isHaunted cX4_isHaunted 3 (some .boolean) ∈ kg_T := kg_inT (List.mem_append_right _ (List.mem_append_right _ (List.mem_append_left _ (List.mem_of_getElem? (i := 51) rfl : _ ∈ tables_1_2)))) rfl
theorem kg_ci32 : Cond.code yX4_isGrave cX4_isGrave 3 (some .boolean) ∈ kg_T := kg_inT (List.mem_append_right _ (List.mem_append_right _ (List.mem_append_left _ (List.mem_of_getElem? (i := 59) rfl : _ ∈ tables_1_2)))) rfl
theorem kg_ci33 : Cond.code yX4_join cX4_join 5 (some .int) ∈ kg_T := kg_inT (List.mem_append_right _ (List.mem_append_right _ (List.mem_append_left _ (List.mem_of_getElem? (i := 81) rfl : _ ∈ tables_1_2)))) rfl
theorem kg_ci34 : Cond.code yX4_logPair cX4_logPair 4 none ∈ kg_T := kg_inT (List.mem_append_right _ (List.mem_append_right _ (List.mem_append_left _ (List.mem_of_getElem? (i := 85) rfl : _ ∈ tables_1_2)))) rfl
theorem kg_ci35 : Cond.code yX4_keysKnownOtherwise cX4_keysKnownOtherwise 5 (some .int) ∈ kg_T := kg_inT (List.mem_append_right _ (List.mem_append_right _ (List.mem_append_left _ (List.mem_of_getElem? (i := 100) rfl : _ ∈ tables_1_2)))) rfl
theorem kg_ci36 : Cond.code yX4_clearableGraves cX4_clearableGraves 4 (some .int) ∈ kg_T := kg_inT (List.mem_append_right _ (List.mem_append_right _ (List.mem_append_left _ (List.mem_of_getElem? (i := 108) rfl : _ ∈ tables_1_2)))) rfl
theorem kg_ci37 : Cond.code yX4_isClearable cX4_isClearable 3 (some .boolean) ∈ kg_T := kg_inT (List.mem_append_right _ (List.mem_append_right _ (List.mem_append_left _ (List.mem_of_getElem? (i := 112) rfl : _ ∈ tables_1_2)))) rfl
theorem kg_ci38 : Cond.code yX4_isRipe cX4_isRipe 3 (some .boolean) ∈ kg_T := kg_inT (List.mem_append_right _ (List.mem_append_right _ (List.mem_append_left _ (List.mem_of_getElem? (i := 116) rfl : _ ∈ tables_1_2)))) rfl
theorem kg_ci39 : Cond.code yX4_ticksSince cX4_ticksSince 3 (some .int) ∈ kg_T := kg_inT (List.mem_append_right _ (List.mem_append_right _ (List.mem_append_left _ (List.mem_of_getElem? (i := 120) rfl : _ ∈ tables_1_2)))) rfl
theorem kg_ci40 : Cond.code yX4_isRepairedSince cX4_isRepairedSince 4 (some .boolean) ∈ kg_T := kg_inT (List.mem_append_right _ (List.mem_append_right _ (List.mem_append_left _ (List.mem_of_getElem? (i := 124) rfl : _ ∈ tables_1_2)))) rfl
theorem kg_ci41 : Cond.code yX4_clearGraves cX4_clearGraves 4 (some .int) ∈ kg_T := kg_inT (List.mem_append_right _ (List.mem_append_right _ (List.mem_append_left _ (List.mem_of_getElem? (i := 128) rfl : _ ∈ tables_1_2)))) rfl
theorem kg_ci42 : Cond.code yX4_passTick cX4_passTick 5 (some .int) ∈ kg_T := kg_inT (List.mem_append_right _ (List.mem_append_right _ (List.mem_append_left _ (List.mem_of_getElem? (i := 176) rfl : _ ∈ tables_1_2)))) rfl
theorem kg_ci43 : Cond.code yX4_nodesWithTruth cX4_nodesWithTruth 4 (some .int) ∈ kg_T := kg_inT (List.mem_append_right _ (List.mem_append_right _ (List.mem_append_left _ (List.mem_of_getElem? (i := 212) rfl : _ ∈ tables_1_2)))) rfl
theorem kg_ci44 : Cond.code yX4_nodesHauntedBy cX4_nodesHauntedBy 4 (some .int) ∈ kg_T := kg_inT (List.mem_append_right _ (List.mem_append_right _ (List.mem_append_left _ (List.mem_of_getElem? (i := 216) rfl : _ ∈ tables_1_2)))) rfl
theorem kg_ci45 : Cond.code yX4_isSettledGrave cX4_isSettledGrave 4 (some .boolean) ∈ kg_T := kg_inT (List.mem_append_right _ (List.mem_append_right _ (List.mem_append_left _ (List.mem_of_getElem? (i := 220) rfl : _ ∈ tables_1_2)))) rfl
theorem kg_ci46 : Cond.code yX4_keysOfKind cX4_keysOfKind 5 (some .int) ∈ kg_T := kg_inT (List.mem_append_right _ (List.mem_append_right _ (List.mem_append_left _ (List.mem_of_getElem? (i := 228) rfl : _ ∈ tables_1_2)))) rfl
theorem kg_ci47 : Cond.code yX4_ripeGraves cX4_ripeGraves 4 (some .int) ∈ kg_T := kg_inT (List.mem_append_right _ (List.mem_append_right _ (List.mem_append_left _ (List.mem_of_getElem? (i := 232) rfl : _ ∈ tables_1_2)))) rfl
theorem kg_ci48 : Cond.code yX4_keysThatHaunt cX4_keysThatHaunt 4 (some .int) ∈ kg_T := kg_inT (List.mem_append_right _ (List.mem_append_right _ (List.mem_append_left _ (List.mem_of_getElem? (i := 236) rfl : _ ∈ tables_1_2)))) rfl
theorem kg_ci49 : Cond.code yX4_slowestPair cX4_slowestPair 6 (some .int) ∈ kg_T := kg_inT (List.mem_append_right _ (List.mem_append_right _ (List.mem_append_right _ (List.mem_append_left _ (List.mem_of_getElem? (i := 10) rfl : _ ∈ tables_1_3))))) rfl
theorem kg_ci50 : Cond.code yX4_safeGrace cX4_safeGrace 4 (some .int) ∈ kg_T := kg_inT (List.mem_append_right _ (List.mem_append_right _ (List.mem_append_right _ (List.mem_append_left _ (List.mem_of_getElem? (i := 18) rfl : _ ∈ tables_1_3))))) rfl
theorem kg_ci51 : Cond.code yX4_isUnsettledGrave cX4_isUnsettledGrave 3 (some .boolean) ∈ kg_T := kg_inT (List.mem_append_right _ (List.mem_append_right _ (List.mem_append_right _ (List.mem_append_left _ (List.mem_of_getElem? (i := 22) rfl : _ ∈ tables_1_3))))) rfl
theorem kg_ci52 : Cond.code yX4_gravesOfAllNodes cX4_gravesOfAllNodes 3 (some .int) ∈ kg_T := kg_inT (List.mem_append_right _ (List.mem_append_right _ (List.mem_append_right _ (List.mem_append_left _ (List.mem_of_getElem? (i := 43) rfl : _ ∈ tables_1_3))))) rfl
theorem kg_ci53 : Cond.code yX4_hauntingKeys cX4_hauntingKeys 3 (some .int) ∈ kg_T := kg_inT (List.mem_append_right _ (List.mem_append_right _ (List.mem_append_right _ (List.mem_append_left _ (List.mem_of_getElem? (i := 48) rfl : _ ∈ tables_1_3))))) rfl
theorem kg_ci54 : Cond.code yX4_gravesNotSettled cX4_gravesNotSettled 4 (some .int) ∈ kg_T := kg_inT (List.mem_append_right _ (List.mem_append_right _ (List.mem_append_right _ (List.mem_append_left _ (List.mem_of_getElem? (i := 53) rfl : _ ∈ tables_1_3))))) rfl
theorem kg_ci55 : Cond.code yX4_lowerNodeKnowsSame cX4_lowerNodeKnowsSame 4 (some .boolean) ∈ kg_T := kg_inT (List.mem_append_right _ (List.mem_append_right _ (List.mem_append_right _ (List.mem_append_left _ (List.mem_of_getElem? (i := 57) rfl : _ ∈ tables_1_3))))) rfl
theorem kg_ci56 : Cond.code yX5_init cX5_init 2 none ∈ kg_T := kg_inT (List.mem_append_right _ (List.mem_append_left _ (List.mem_of_getElem? (i := 14) rfl : _ ∈ tables_1_1))) rfl
theorem kg_ci57 : Cond.code yX5_set cX5_set 4 (some .int) ∈ kg_T := kg_inT (List.mem_append_right _ (List.mem_append_left _ (List.mem_of_getElem? (i := 193) rfl : _ ∈ tables_1_1))) rfl
theorem kg_ci58 : Cond.code yX5_isSetting cX5_isSetting 1 (some .boolean) ∈ kg_T := kg_inT (List.mem_append_right _ (List.mem_append_left _ (List.mem_of_getElem? (i := 196) rfl : _ ∈ tables_1_1))) rfl
theorem kg_ci59 : Cond.code yX5_record cX5_record 3 none ∈ kg_T := kg_inT (List.mem_append_right _ (List.mem_append_left _ (List.mem_of_getElem? (i := 204) rfl : _ ∈ tables_1_1))) rfl
theorem kg_ci60 : Cond.code yX5_setUp cX5_setUp 3 (some .int) ∈ kg_T := kg_inT (List.mem_append_right _ (List.mem_append_left _ (List.mem_of_getElem? (i := 230) rfl : _ ∈ tables_1_1))) rfl
theorem kg_ci61 : Cond.code yX5_isNode cX5_isNode 1 (some .boolean) ∈ kg_T := kg_inT (List.mem_append_right _ (List.mem_append_left _ (List.mem_of_getElem? (i := 233) rfl : _ ∈ tables_1_1))) rfl
theorem kg_ci62 : Cond.code yX5_write cX5_write 4 (some .int) ∈ kg_T := kg_inT (List.mem_append_right _ (List.mem_append_right _ (List.mem_append_left _ (List.mem_of_getElem? (i := 1) rfl : _ ∈ tables_1_2)))) rfl
theorem kg_ci63 : Cond.code yX5_isKey cX5_isKey 1 (some .boolean) ∈ kg_T := kg_inT (List.mem_append_right _ (List.mem_append_right _ (List.mem_append_left _ (List.mem_of_getElem? (i := 4) rfl : _ ∈ tables_1_2)))) rfl
theorem kg_ci64 : Cond.code yX5_place cX5_place 2 (some .int) ∈ kg_T := kg_inT (List.mem_append_right _ (List.mem_append_right _ (List.mem_append_left _ (List.mem_of_getElem? (i := 11) rfl : _ ∈ tables_1_2)))) rfl
theorem kg_ci65 : Cond.code yX5_delete cX5_delete 3 (some .int) ∈ kg_T := kg_inT (List.mem_append_right _ (List.mem_append_right _ (List.mem_append_left _ (List.mem_of_getElem? (i := 23) rfl : _ ∈ tables_1_2)))) rfl
theorem kg_ci66 : Cond.code yX5_read cX5_read 4 (some .int) ∈ kg_T := kg_inT (List.mem_append_right _ (List.mem_append_right _ (List.mem_append_left _ (List.mem_of_getElem? (i := 27) rfl : _ ∈ tables_1_2)))) rfl
theorem kg_ci67 : Cond.code yX5_repair cX5_repair 3 (some .int) ∈ kg_T := kg_inT (List.mem_append_right _ (List.mem_append_right _ (List.mem_append_left _ (List.mem_of_getElem? (i := 77) rfl : _ ∈ tables_1_2)))) rfl
theorem kg_ci68 : Cond.code yX5_pairPlace cX5_pairPlace 2 (some .int) ∈ kg_T := kg_inT (List.mem_append_right _ (List.mem_append_right _ (List.mem_append_left _ (List.mem_of_getElem? (i := 94) rfl : _ ∈ tables_1_2)))) rfl
theorem kg_ci69 : Cond.code yX5_clear cX5_clear 2 (some .int) ∈ kg_T := kg_inT (List.mem_append_right _ (List.mem_append_right _ (List.mem_append_left _ (List.mem_of_getElem? (i := 104) rfl : _ ∈ tables_1_2)))) rfl
theorem kg_ci70 : Cond.code yX5_plan cX5_plan 4 (some .int) ∈ kg_T := kg_inT (List.mem_append_right _ (List.mem_append_right _ (List.mem_append_left _ (List.mem_of_getElem? (i := 137) rfl : _ ∈ tables_1_2)))) rfl
theorem kg_ci71 : Cond.code yX5_readPlan cX5_readPlan 2 (some .int) ∈ kg_T := kg_inT (List.mem_append_right _ (List.mem_append_right _ (List.mem_append_left _ (List.mem_of_getElem? (i := 145) rfl : _ ∈ tables_1_2)))) rfl
theorem kg_ci72 : Cond.code yX5_pass cX5_pass 4 (some .int) ∈ kg_T := kg_inT (List.mem_append_right _ (List.mem_append_right _ (List.mem_append_left _ (List.mem_of_getElem? (i := 171) rfl : _ ∈ tables_1_2)))) rfl
theorem kg_ci73 : Cond.code yX5_type cX5_type 2 (some .int) ∈ kg_T := kg_inT (List.mem_append_right _ (List.mem_append_right _ (List.mem_append_left _ (List.mem_of_getElem? (i := 181) rfl : _ ∈ tables_1_2)))) rfl
theorem kg_ci74 : Cond.code yX5_clearText cX5_clearText 2 (some .int) ∈ kg_T := kg_inT (List.mem_append_right _ (List.mem_append_right _ (List.mem_append_left _ (List.mem_of_getElem? (i := 185) rfl : _ ∈ tables_1_2)))) rfl
theorem kg_ci75 : Cond.code yX5_undo cX5_undo 1 (some .int) ∈ kg_T := kg_inT (List.mem_append_right _ (List.mem_append_right _ (List.mem_append_left _ (List.mem_of_getElem? (i := 189) rfl : _ ∈ tables_1_2)))) rfl
theorem kg_ci76 : Cond.code yX5_keep cX5_keep 1 (some .int) ∈ kg_T := kg_inT (List.mem_append_right _ (List.mem_append_right _ (List.mem_append_left _ (List.mem_of_getElem? (i := 193) rfl : _ ∈ tables_1_2)))) rfl
theorem kg_ci77 : Cond.code yX5_restore cX5_restore 1 (some .int) ∈ kg_T := kg_inT (List.mem_append_right _ (List.mem_append_right _ (List.mem_append_left _ (List.mem_of_getElem? (i := 197) rfl : _ ∈ tables_1_2)))) rfl
theorem kg_ci78 : Cond.code yX5_known cX5_known 7 (some .int) ∈ kg_T := kg_inT (List.mem_append_right _ (List.mem_append_right _ (List.mem_append_left _ (List.mem_of_getElem? (i := 201) rfl : _ ∈ tables_1_2)))) rfl
theorem kg_ci79 : Cond.code yX5_truth cX5_truth 4 (some .int) ∈ kg_T := kg_inT (List.mem_append_right _ (List.mem_append_right _ (List.mem_append_left _ (List.mem_of_getElem? (i := 208) rfl : _ ∈ tables_1_2)))) rfl
theorem kg_ci80 : Cond.code yX5_node cX5_node 3 (some .int) ∈ kg_T := kg_inT (List.mem_append_right _ (List.mem_append_right _ (List.mem_append_left _ (List.mem_of_getElem? (i := 224) rfl : _ ∈ tables_1_2)))) rfl
theorem kg_ci81 : Cond.code yX5_pair cX5_pair 5 (some .int) ∈ kg_T := kg_inT (List.mem_append_right _ (List.mem_append_right _ (List.mem_append_right _ (List.mem_append_left _ (List.mem_of_getElem? (i := 0) rfl : _ ∈ tables_1_3))))) rfl
theorem kg_ci82 : Cond.code yX5_slowest cX5_slowest 1 (some .int) ∈ kg_T := kg_inT (List.mem_append_right _ (List.mem_append_right _ (List.mem_append_right _ (List.mem_append_left _ (List.mem_of_getElem? (i := 6) rfl : _ ∈ tables_1_3))))) rfl
theorem kg_ci83 : Cond.code yX5_graceNeeded cX5_graceNeeded 1 (some .int) ∈ kg_T := kg_inT (List.mem_append_right _ (List.mem_append_right _ (List.mem_append_right _ (List.mem_append_left _ (List.mem_of_getElem? (i := 14) rfl : _ ∈ tables_1_3))))) rfl
theorem kg_ci84 : Cond.code yX5_event cX5_event 5 (some .int) ∈ kg_T := kg_inT (List.mem_append_right _ (List.mem_append_right _ (List.mem_append_right _ (List.mem_append_left _ (List.mem_of_getElem? (i := 27) rfl : _ ∈ tables_1_3))))) rfl
theorem kg_ci85 : Cond.code yX5_planned cX5_planned 4 (some .int) ∈ kg_T := kg_inT (List.mem_append_right _ (List.mem_append_right _ (List.mem_append_right _ (List.mem_append_left _ (List.mem_of_getElem? (i := 35) rfl : _ ∈ tables_1_3))))) rfl
theorem kg_ci86 : Cond.code yX5_count cX5_count 2 (some .int) ∈ kg_T := kg_inT (List.mem_append_right _ (List.mem_append_right _ (List.mem_append_right _ (List.mem_append_left _ (List.mem_of_getElem? (i := 39) rfl : _ ∈ tables_1_3))))) rfl
theorem kg_ci87 : Cond.code yX5_setting cX5_setting 2 (some .int) ∈ kg_T := kg_inT (List.mem_append_right _ (List.mem_append_right _ (List.mem_append_right _ (List.mem_append_left _ (List.mem_of_getElem? (i := 61) rfl : _ ∈ tables_1_3))))) rfl
theorem kg_ci88 : Cond.code yX6_init cX6_init 2 none ∈ kg_T := kg_inT (List.mem_append_right _ (List.mem_append_right _ (List.mem_append_right _ (List.mem_append_left _ (List.mem_of_getElem? (i := 66) rfl : _ ∈ tables_1_3))))) rfl
theorem kg_ci89 : Cond.code yX6_set cX6_set 4 (some .int) ∈ kg_T := kg_inT (List.mem_append_right _ (List.mem_append_right _ (List.mem_append_right _ (List.mem_append_left _ (List.mem_of_getElem? (i := 99) rfl : _ ∈ tables_1_3))))) rfl
theorem kg_ci90 : Cond.code yX6_in cX6_in 3 (some .boolean) ∈ kg_T := kg_inT (List.mem_append_right _ (List.mem_append_right _ (List.mem_append_right _ (List.mem_append_left _ (List.mem_of_getElem? (i := 102) rfl : _ ∈ tables_1_3))))) rfl
theorem kg_ci91 : Cond.code yX6_know cX6_know 2 none ∈ kg_T := kg_inT (List.mem_append_right _ (List.mem_append_right _ (List.mem_append_right _ (List.mem_append_left _ (List.mem_of_getElem? (i := 106) rfl : _ ∈ tables_1_3))))) rfl
theorem kg_ci92 : Cond.code yX6_setUp cX6_setUp 3 (some .int) ∈ kg_T := kg_inT (List.mem_append_right _ (List.mem_append_right _ (List.mem_append_right _ (List.mem_append_left _ (List.mem_of_getElem? (i := 110) rfl : _ ∈ tables_1_3))))) rfl
theorem kg_ci93 : Cond.code yX6_isNode cX6_isNode 1 (some .boolean) ∈ kg_T := kg_inT (List.mem_append_right _ (List.mem_append_right _ (List.mem_append_right _ (List.mem_append_left _ (List.mem_of_getElem? (i := 113) rfl : _ ∈ tables_1_3))))) rfl
theorem kg_ci94 : Cond.code yX6_manyUp cX6_manyUp 1 (some .int) ∈ kg_T := kg_inT (List.mem_append_right _ (List.mem_append_right _ (List.mem_append_right _ (List.mem_append_left _ (List.mem_of_getElem? (i := 117) rfl : _ ∈ tables_1_3))))) rfl
theorem kg_ci95 : Cond.code yX6_write cX6_write 4 (some .int) ∈ kg_T := kg_inT (List.mem_append_right _ (List.mem_append_right _ (List.mem_append_right _ (List.mem_append_left _ (List.mem_of_getElem? (i := 121) rfl : _ ∈ tables_1_3))))) rfl
theorem kg_ci96 : Cond.code yX6_isKey cX6_isKey 1 (some .boolean) ∈ kg_T := kg_inT (List.mem_append_right _ (List.mem_append_right _ (List.mem_append_right _ (List.mem_append_left _ (List.mem_of_getElem? (i := 124) rfl : _ ∈ tables_1_3))))) rfl
theorem kg_ci97 : Cond.code yX6_tells cX6_tells 7 (some .int) ∈ kg_T := kg_inT (List.mem_append_right _ (List.mem_append_right _ (List.mem_append_right _ (List.mem_append_left _ (List.mem_of_getElem? (i := 128) rfl : _ ∈ tables_1_3))))) rfl
theorem kg_ci98 : Cond.code yX6_truthOf cX6_truthOf 2 (some .int) ∈ kg_T := kg_inT (List.mem_append_right _ (List.mem_append_right _ (List.mem_append_right _ (List.mem_append_left _ (List.mem_of_getElem? (i := 131) rfl : _ ∈ tables_1_3))))) rfl
theorem kg_ci99 : Cond.code yX6_reached cX6_reached 7 (some .int) ∈ kg_T := kg_inT (List.mem_append_right _ (List.mem_append_right _ (List.mem_append_right _ (List.mem_append_left _ (List.mem_of_getElem? (i := 135) rfl : _ ∈ tables_1_3))))) rfl
theorem kg_ci100 : Cond.code yX6_of cX6_of 3 (some .int) ∈ kg_T := kg_inT (List.mem_append_right _ (List.mem_append_right _ (List.mem_append_right _ (List.mem_append_left _ (List.mem_of_getElem? (i := 138) rfl : _ ∈ tables_1_3))))) rfl
theorem kg_ci101 : Cond.code yX6_delete cX6_delete 3 (some .int) ∈ kg_T := kg_inT (List.mem_append_right _ (List.mem_append_right _ (List.mem_append_right _ (List.mem_append_left _ (List.mem_of_getElem? (i := 142) rfl : _ ∈ tables_1_3))))) rfl
theorem kg_ci102 : Cond.code yX6_read cX6_read 7 (some .int) ∈ kg_T := kg_inT (List.mem_append_right _ (List.mem_append_right _ (List.mem_append_right _ (List.mem_append_left _ (List.mem_of_getElem? (i := 146) rfl : _ ∈ tables_1_3))))) rfl
theorem kg_ci103 : Cond.code yX6_learn cX6_learn 6 none ∈ kg_T := kg_inT (List.mem_append_right _ (List.mem_append_right _ (List.mem_append_right _ (List.mem_append_left _ (List.mem_of_getElem? (i := 150) rfl : _ ∈ tables_1_3))))) rfl
theorem kg_ci104 : Cond.code yX6_isHaunted cX6_isHaunted 3 (some .boolean) ∈ kg_T := kg_inT (List.mem_append_right _ (List.mem_append_right _ (List.mem_append_right _ (List.mem_append_left _ (List.mem_of_getElem? (i := 154) rfl : _ ∈ tables_1_3))))) rfl
theorem kg_ci105 : Cond.code yX6_note cX6_note 5 none ∈ kg_T := kg_inT (List.mem_append_right _ (List.mem_append_right _ (List.mem_append_right _ (List.mem_append_left _ (List.mem_of_getElem? (i := 158) rfl : _ ∈ tables_1_3))))) rfl
theorem kg_ci106 : Cond.code yX6_repair cX6_repair 3 (some .int) ∈ kg_T := kg_inT (List.mem_append_right _ (List.mem_append_right _ (List.mem_append_right _ (List.mem_append_left _ (List.mem_of_getElem? (i := 162) rfl : _ ∈ tables_1_3))))) rfl
theorem kg_ci107 : Cond.code yX6_repairs cX6_repairs 6 (some .int) ∈ kg_T := kg_inT (List.mem_append_right _ (List.mem_append_right _ (List.mem_append_right _ (List.mem_append_left _ (List.mem_of_getElem? (i := 166) rfl : _ ∈ tables_1_3))))) rfl
theorem kg_ci108 : Cond.code yX6_differing cX6_differing 5 (some .int) ∈ kg_T := kg_inT (List.mem_append_right _ (List.mem_append_right _ (List.mem_append_right _ (List.mem_append_left _ (List.mem_of_getElem? (i := 170) rfl : _ ∈ tables_1_3))))) rfl
theorem kg_ci109 : Cond.code yX6_clear cX6_clear 5 (some .int) ∈ kg_T := kg_inT (List.mem_append_right _ (List.mem_append_right _ (List.mem_append_right _ (List.mem_append_left _ (List.mem_of_getElem? (i := 174) rfl : _ ∈ tables_1_3))))) rfl
theorem kg_ci110 : Cond.code yX6_toClear cX6_toClear 4 (some .int) ∈ kg_T := kg_inT (List.mem_append_right _ (List.mem_append_right _ (List.mem_append_right _ (List.mem_append_left _ (List.mem_of_getElem? (i := 178) rfl : _ ∈ tables_1_3))))) rfl
theorem kg_ci111 : Cond.code yX6_isCleared cX6_isCleared 5 (some .boolean) ∈ kg_T := kg_inT (List.mem_append_right _ (List.mem_append_right _ (List.mem_append_right _ (List.mem_append_left _ (List.mem_of_getElem? (i := 182) rfl : _ ∈ tables_1_3))))) rfl
theorem kg_ci112 : Cond.code yX6_isRipe cX6_isRipe 3 (some .boolean) ∈ kg_T := kg_inT (List.mem_append_right _ (List.mem_append_right _ (List.mem_append_right _ (List.mem_append_left _ (List.mem_of_getElem? (i := 186) rfl : _ ∈ tables_1_3))))) rfl
theorem kg_ci113 : Cond.code yX6_plan cX6_plan 4 (some .int) ∈ kg_T := kg_inT (List.mem_append_right _ (List.mem_append_right _ (List.mem_append_right _ (List.mem_append_left _ (List.mem_of_getElem? (i := 190) rfl : _ ∈ tables_1_3))))) rfl
theorem kg_ci114 : Cond.code yX6_plans cX6_plans 5 (some .int) ∈ kg_T := kg_inT (List.mem_append_right _ (List.mem_append_right _ (List.mem_append_right _ (List.mem_append_left _ (List.mem_of_getElem? (i := 194) rfl : _ ∈ tables_1_3))))) rfl
theorem kg_ci115 : Cond.code yX6_readPlan cX6_readPlan 2 (some .int) ∈ kg_T := kg_inT (List.mem_append_right _ (List.mem_append_right _ (List.mem_append_right _ (List.mem_append_left _ (List.mem_of_getElem? (i := 198) rfl : _ ∈ tables_1_3))))) rfl
theorem kg_ci116 : Cond.code yX6_go cX6_go 10 (some .int) ∈ kg_T := kg_inT (List.mem_append_right _ (List.mem_append_right _ (List.mem_append_right _ (List.mem_append_left _ (List.mem_of_getElem? (i := 202) rfl : _ ∈ tables_1_3))))) rfl
theorem kg_ci117 : Cond.code yX6_sign cX6_sign 4 (some .int) ∈ kg_T := kg_inT (List.mem_append_right _ (List.mem_append_right _ (List.mem_append_right _ (List.mem_append_left _ (List.mem_of_getElem? (i := 206) rfl : _ ∈ tables_1_3))))) rfl
theorem kg_ci118 : Cond.code yX6_number cX6_number 3 (some .int) ∈ kg_T := kg_inT (List.mem_append_right _ (List.mem_append_right _ (List.mem_append_right _ (List.mem_append_left _ (List.mem_of_getElem? (i := 210) rfl : _ ∈ tables_1_3))))) rfl
theorem kg_ci119 : Cond.code yX6_pass cX6_pass 10 (some .int) ∈ kg_T := kg_inT (List.mem_append_right _ (List.mem_append_right _ (List.mem_append_right _ (List.mem_append_left _ (List.mem_of_getElem? (i := 214) rfl : _ ∈ tables_1_3))))) rfl
theorem kg_ci120 : Cond.code yX6_type cX6_type 2 (some .int) ∈ kg_T := kg_inT (List.mem_append_right _ (List.mem_append_right _ (List.mem_append_right _ (List.mem_append_left _ (List.mem_of_getElem? (i := 219) rfl : _ ∈ tables_1_3))))) rfl
theorem kg_ci121 : Cond.code yX6_clearText cX6_clearText 2 (some .int) ∈ kg_T := kg_inT (List.mem_append_right _ (List.mem_append_right _ (List.mem_append_right _ (List.mem_append_left _ (List.mem_of_getElem? (i := 223) rfl : _ ∈ tables_1_3))))) rfl
theorem kg_ci122 : Cond.code yX6_undo cX6_undo 2 (some .int) ∈ kg_T := kg_inT (List.mem_append_right _ (List.mem_append_right _ (List.mem_append_right _ (List.mem_append_left _ (List.mem_of_getElem? (i := 227) rfl : _ ∈ tables_1_3))))) rfl
theorem kg_ci123 : Cond.code yX6_keep cX6_keep 2 (some .int) ∈ kg_T := kg_inT (List.mem_append_right _ (List.mem_append_right _ (List.mem_append_right _ (List.mem_append_left _ (List.mem_of_getElem? (i := 231) rfl : _ ∈ tables_1_3))))) rfl
theorem kg_ci124 : Cond.code yX6_restore cX6_restore 2 (some .int) ∈ kg_T := kg_inT (List.mem_append_right _ (List.mem_append_right _ (List.mem_append_right _ (List.mem_append_left _ (List.mem_of_getElem? (i := 235) rfl : _ ∈ tables_1_3))))) rfl
theorem kg_ci125 : Cond.code yX6_known cX6_known 5 (some .int) ∈ kg_T := kg_inT (List.mem_append_right _ (List.mem_append_right _ (List.mem_append_right _ (List.mem_append_left _ (List.mem_of_getElem? (i := 239) rfl : _ ∈ tables_1_3))))) rfl
theorem kg_ci126 : Cond.code yX6_truth cX6_truth 7 (some .int) ∈ kg_T := kg_inT (List.mem_append_right _ (List.mem_append_right _ (List.mem_append_right _ (List.mem_append_right _ (List.mem_of_getElem? (i := 3) rfl : _ ∈ tables_1_4))))) rfl
theorem kg_ci127 : Cond.code yX6_isSettled cX6_isSettled 5 (some .boolean) ∈ kg_T := kg_inT (List.mem_append_right _ (List.mem_append_right _ (List.mem_append_right _ (List.mem_append_right _ (List.mem_of_getElem? (i := 7) rfl : _ ∈ tables_1_4))))) rfl
theorem kg_ci128 : Cond.code yX6_node cX6_node 3 (some .int) ∈ kg_T := kg_inT (List.mem_append_right _ (List.mem_append_right _ (List.mem_append_right _ (List.mem_append_right _ (List.mem_of_getElem? (i := 11) rfl : _ ∈ tables_1_4))))) rfl
theorem kg_ci129 : Cond.code yX6_keysOf cX6_keysOf 6 (some .int) ∈ kg_T := kg_inT (List.mem_append_right _ (List.mem_append_right _ (List.mem_append_right _ (List.mem_append_right _ (List.mem_of_getElem? (i := 15) rfl : _ ∈ tables_1_4))))) rfl
theorem kg_ci130 : Cond.code yX6_pair cX6_pair 4 (some .int) ∈ kg_T := kg_inT (List.mem_append_right _ (List.mem_append_right _ (List.mem_append_right _ (List.mem_append_right _ (List.mem_of_getElem? (i := 19) rfl : _ ∈ tables_1_4))))) rfl
theorem kg_ci131 : Cond.code yX6_slowest cX6_slowest 4 (some .int) ∈ kg_T := kg_inT (List.mem_append_right _ (List.mem_append_right _ (List.mem_append_right _ (List.mem_append_right _ (List.mem_of_getElem? (i := 23) rfl : _ ∈ tables_1_4))))) rfl
theorem kg_ci132 : Cond.code yX6_graceNeeded cX6_graceNeeded 5 (some .int) ∈ kg_T := kg_inT (List.mem_append_right _ (List.mem_append_right _ (List.mem_append_right _ (List.mem_append_right _ (List.mem_of_getElem? (i := 27) rfl : _ ∈ tables_1_4))))) rfl
theorem kg_ci133 : Cond.code yX6_isOpen cX6_isOpen 3 (some .boolean) ∈ kg_T := kg_inT (List.mem_append_right _ (List.mem_append_right _ (List.mem_append_right _ (List.mem_append_right _ (List.mem_of_getElem? (i := 31) rfl : _ ∈ tables_1_4))))) rfl
theorem kg_ci134 : Cond.code yX6_event cX6_event 3 (some .int) ∈ kg_T := kg_inT (List.mem_append_right _ (List.mem_append_right _ (List.mem_append_right _ (List.mem_append_right _ (List.mem_of_getElem? (i := 35) rfl : _ ∈ tables_1_4))))) rfl
theorem kg_ci135 : Cond.code yX6_planned cX6_planned 3 (some .int) ∈ kg_T := kg_inT (List.mem_append_right _ (List.mem_append_right _ (List.mem_append_right _ (List.mem_append_right _ (List.mem_of_getElem? (i := 39) rfl : _ ∈ tables_1_4))))) rfl
theorem kg_ci136 : Cond.code yX6_count cX6_count 2 (some .int) ∈ kg_T := kg_inT (List.mem_append_right _ (List.mem_append_right _ (List.mem_append_right _ (List.mem_append_right _ (List.mem_of_getElem? (i := 43) rfl : _ ∈ tables_1_4))))) rfl
theorem kg_ci137 : Cond.code yX6_graves cX6_graves 3 (some .int) ∈ kg_T := kg_inT (List.mem_append_right _ (List.mem_append_right _ (List.mem_append_right _ (List.mem_append_right _ (List.mem_of_getElem? (i := 47) rfl : _ ∈ tables_1_4))))) rfl
theorem kg_ci138 : Cond.code yX6_haunting cX6_haunting 3 (some .int) ∈ kg_T := kg_inT (List.mem_append_right _ (List.mem_append_right _ (List.mem_append_right _ (List.mem_append_right _ (List.mem_of_getElem? (i := 51) rfl : _ ∈ tables_1_4))))) rfl
theorem kg_ci139 : Cond.code yX6_openGraves cX6_openGraves 6 (some .int) ∈ kg_T := kg_inT (List.mem_append_right _ (List.mem_append_right _ (List.mem_append_right _ (List.mem_append_right _ (List.mem_of_getElem? (i := 56) rfl : _ ∈ tables_1_4))))) rfl
theorem kg_ci140 : Cond.code yX6_setting cX6_setting 2 (some .int) ∈ kg_T := kg_inT (List.mem_append_right _ (List.mem_append_right _ (List.mem_append_right _ (List.mem_append_right _ (List.mem_of_getElem? (i := 60) rfl : _ ∈ tables_1_4))))) rfl
set_option maxRecDepth 100000 in
theorem kg_code_in : ∀ q ∈ kg_ms, Cond.code q.1 q.2.1 q.2.2.1 q.2.2.2 ∈ kg_T := List.forall_mem_cons.mpr ⟨kg_ci0, List.forall_mem_cons.mpr ⟨kg_ci1, List.forall_mem_cons.mpr ⟨kg_ci2, List.forall_mem_cons.mpr ⟨kg_ci3, List.forall_mem_cons.mpr ⟨kg_ci4, List.forall_mem_cons.mpr ⟨kg_ci5, List.forall_mem_cons.mpr ⟨kg_ci6, List.forall_mem_cons.mpr ⟨kg_ci7, List.forall_mem_cons.mpr ⟨kg_ci8, List.forall_mem_cons.mpr ⟨kg_ci9, List.forall_mem_cons.mpr ⟨kg_ci10, List.forall_mem_cons.mpr ⟨kg_ci11, List.forall_mem_cons.mpr ⟨kg_ci12, List.forall_mem_cons.mpr ⟨kg_ci13, List.forall_mem_cons.mpr ⟨kg_ci14, List.forall_mem_cons.mpr ⟨kg_ci15, List.forall_mem_cons.mpr ⟨kg_ci16, List.forall_mem_cons.mpr ⟨kg_ci17, List.forall_mem_cons.mpr ⟨kg_ci18, List.forall_mem_cons.mpr ⟨kg_ci19, List.forall_mem_cons.mpr ⟨kg_ci20, List.forall_mem_cons.mpr ⟨kg_ci21, List.forall_mem_cons.mpr ⟨kg_ci22, List.forall_mem_cons.mpr ⟨kg_ci23, List.forall_mem_cons.mpr ⟨kg_ci24, List.forall_mem_cons.mpr ⟨kg_ci25, List.forall_mem_cons.mpr ⟨kg_ci26, List.forall_mem_cons.mpr ⟨kg_ci27, List.forall_mem_cons.mpr ⟨kg_ci28, List.forall_mem_cons.mpr ⟨kg_ci29, List.forall_mem_cons.mpr ⟨kg_ci30, List.forall_mem_cons.mpr ⟨kg_ci31, List.forall_mem_cons.mpr ⟨kg_ci32, List.forall_mem_cons.mpr ⟨kg_ci33, List.forall_mem_cons.mpr ⟨kg_ci34, List.forall_mem_cons.mpr ⟨kg_ci35, List.forall_mem_cons.mpr ⟨kg_ci36, List.forall_mem_cons.mpr ⟨kg_ci37, List.forall_mem_cons.mpr ⟨kg_ci38, List.forall_mem_cons.mpr ⟨kg_ci39, List.forall_mem_cons.mpr ⟨kg_ci40, List.forall_mem_cons.mpr ⟨kg_ci41, List.forall_mem_cons.mpr ⟨kg_ci42, List.forall_mem_cons.mpr ⟨kg_ci43, List.forall_mem_cons.mpr ⟨kg_ci44, List.forall_mem_cons.mpr ⟨kg_ci45, List.forall_mem_cons.mpr ⟨kg_ci46, List.forall_mem_cons.mpr ⟨kg_ci47, List.forall_mem_cons.mpr ⟨kg_ci48, List.forall_mem_cons.mpr ⟨kg_ci49, List.forall_mem_cons.mpr ⟨kg_ci50, List.forall_mem_cons.mpr ⟨kg_ci51, List.forall_mem_cons.mpr ⟨kg_ci52, List.forall_mem_cons.mpr ⟨kg_ci53, List.forall_mem_cons.mpr ⟨kg_ci54, List.forall_mem_cons.mpr ⟨kg_ci55, List.forall_mem_cons.mpr ⟨kg_ci56, List.forall_mem_cons.mpr ⟨kg_ci57, List.forall_mem_cons.mpr ⟨kg_ci58, List.forall_mem_cons.mpr ⟨kg_ci59, List.forall_mem_cons.mpr ⟨kg_ci60, List.forall_mem_cons.mpr ⟨kg_ci61, List.forall_mem_cons.mpr ⟨kg_ci62, List.forall_mem_cons.mpr ⟨kg_ci63, List.forall_mem_cons.mpr ⟨kg_ci64, List.forall_mem_cons.mpr ⟨kg_ci65, List.forall_mem_cons.mpr ⟨kg_ci66, List.forall_mem_cons.mpr ⟨kg_ci67, List.forall_mem_cons.mpr ⟨kg_ci68, List.forall_mem_cons.mpr ⟨kg_ci69, List.forall_mem_cons.mpr ⟨kg_ci70, List.forall_mem_cons.mpr ⟨kg_ci71, List.forall_mem_cons.mpr ⟨kg_ci72, List.forall_mem_cons.mpr ⟨kg_ci73, List.forall_mem_cons.mpr ⟨kg_ci74, List.forall_mem_cons.mpr ⟨kg_ci75, List.forall_mem_cons.mpr ⟨kg_ci76, List.forall_mem_cons.mpr ⟨kg_ci77, List.forall_mem_cons.mpr ⟨kg_ci78, List.forall_mem_cons.mpr ⟨kg_ci79, List.forall_mem_cons.mpr ⟨kg_ci80, List.forall_mem_cons.mpr ⟨kg_ci81, List.forall_mem_cons.mpr ⟨kg_ci82, List.forall_mem_cons.mpr ⟨kg_ci83, List.forall_mem_cons.mpr ⟨kg_ci84, List.forall_mem_cons.mpr ⟨kg_ci85, List.forall_mem_cons.mpr ⟨kg_ci86, List.forall_mem_cons.mpr ⟨kg_ci87, List.forall_mem_cons.mpr ⟨kg_ci88, List.forall_mem_cons.mpr ⟨kg_ci89, List.forall_mem_cons.mpr ⟨kg_ci90, List.forall_mem_cons.mpr ⟨kg_ci91, List.forall_mem_cons.mpr ⟨kg_ci92, List.forall_mem_cons.mpr ⟨kg_ci93, List.forall_mem_cons.mpr ⟨kg_ci94, List.forall_mem_cons.mpr ⟨kg_ci95, List.forall_mem_cons.mpr ⟨kg_ci96, List.forall_mem_cons.mpr ⟨kg_ci97, List.forall_mem_cons.mpr ⟨kg_ci98, List.forall_mem_cons.mpr ⟨kg_ci99, List.forall_mem_cons.mpr ⟨kg_ci100, List.forall_mem_cons.mpr ⟨kg_ci101, List.forall_mem_cons.mpr ⟨kg_ci102, List.forall_mem_cons.mpr ⟨kg_ci103, List.forall_mem_cons.mpr ⟨kg_ci104, List.forall_mem_cons.mpr ⟨kg_ci105, List.forall_mem_cons.mpr ⟨kg_ci106, List.forall_mem_cons.mpr ⟨kg_ci107, List.forall_mem_cons.mpr ⟨kg_ci108, List.forall_mem_cons.mpr ⟨kg_ci109, List.forall_mem_cons.mpr ⟨kg_ci110, List.forall_mem_cons.mpr ⟨kg_ci111, List.forall_mem_cons.mpr ⟨kg_ci112, List.forall_mem_cons.mpr ⟨kg_ci113, List.forall_mem_cons.mpr ⟨kg_ci114, List.forall_mem_cons.mpr ⟨kg_ci115, List.forall_mem_cons.mpr ⟨kg_ci116, List.forall_mem_cons.mpr ⟨kg_ci117, List.forall_mem_cons.mpr ⟨kg_ci118, List.forall_mem_cons.mpr ⟨kg_ci119, List.forall_mem_cons.mpr ⟨kg_ci120, List.forall_mem_cons.mpr ⟨kg_ci121, List.forall_mem_cons.mpr ⟨kg_ci122, List.forall_mem_cons.mpr ⟨kg_ci123, List.forall_mem_cons.mpr ⟨kg_ci124, List.forall_mem_cons.mpr ⟨kg_ci125, List.forall_mem_cons.mpr ⟨kg_ci126, List.forall_mem_cons.mpr ⟨kg_ci127, List.forall_mem_cons.mpr ⟨kg_ci128, List.forall_mem_cons.mpr ⟨kg_ci129, List.forall_mem_cons.mpr ⟨kg_ci130, List.forall_mem_cons.mpr ⟨kg_ci131, List.forall_mem_cons.mpr ⟨kg_ci132, List.forall_mem_cons.mpr ⟨kg_ci133, List.forall_mem_cons.mpr ⟨kg_ci134, List.forall_mem_cons.mpr ⟨kg_ci135, List.forall_mem_cons.mpr ⟨kg_ci136, List.forall_mem_cons.mpr ⟨kg_ci137, List.forall_mem_cons.mpr ⟨kg_ci138, List.forall_mem_cons.mpr ⟨kg_ci139, List.forall_mem_cons.mpr ⟨kg_ci140, fun _ h => absurd h List.not_mem_nil⟩⟩⟩⟩⟩⟩⟩⟩⟩⟩⟩⟩⟩⟩⟩⟩⟩⟩⟩⟩⟩⟩⟩⟩⟩⟩⟩⟩⟩⟩⟩⟩⟩⟩⟩⟩⟩⟩⟩⟩⟩⟩⟩⟩⟩⟩⟩⟩⟩⟩⟩⟩⟩⟩⟩⟩⟩⟩⟩⟩⟩⟩⟩⟩⟩⟩⟩⟩⟩⟩⟩⟩⟩⟩⟩⟩⟩⟩⟩⟩⟩⟩⟩⟩⟩⟩⟩⟩⟩⟩⟩⟩⟩⟩⟩⟩⟩⟩⟩⟩⟩⟩⟩⟩⟩⟩⟩⟩⟩⟩⟩⟩⟩⟩⟩⟩⟩⟩⟩⟩⟩⟩⟩⟩⟩⟩⟩⟩⟩⟩⟩⟩⟩⟩⟩⟩⟩⟩⟩⟩⟩
def kg_wp (i : Nat) (w : Cond) : Bool := decide (lw_tbl[i]? = some w) && goodWord w
theorem kg_wp_of {i : Nat} {w : Cond} (h : kg_wp i w = true) : w ∈ kg_T := by simp only [kg_wp, Bool.and_eq_true, decide_eq_true_eq] at h; exact kg_inT (List.mem_of_getElem? h.1) h.2
def kg_fl5 : List (Nat × Nat × Nat × Nat × Nat) := [(0, 9, 0, 0, 117), (0, 15, 0, 1, 119), (0, 18, 0, 2, 120), (0, 22, 0, 3, 122), (0, 25, 0, 4, 124), (0, 28, 0, 5, 126), (0, 31, 0, 6, 128), (1, 9, 1, 0, 62), (1, 15, 1, 1, 65), (1, 18, 1, 2, 66), (1, 21, 1, 3, 69), (2, 9, 2, 0, 89), (2, 15, 2, 1, 93), (2, 19, 2, 2, 96), (2, 22, 2, 3, 99), (3, 9, 3, 0, 193), (3, 15, 3, 1, 195), (3, 23, 2, 0, 90), (4, 9, 4, 0, 147), (4, 15, 4, 1, 149), (4, 18, 4, 2, 151), (4, 22, 4, 3, 153), (4, 29, 4, 4, 155), (4, 33, 4, 5, 157), (4, 39, 4, 6, 159), (4, 46, 4, 7, 161), (4, 50, 4, 8, 163), (4, 53, 4, 9, 164), (4, 94, 1, 0, 63), (4, 124, 2, 0, 92), (4, 127, 2, 3, 100), (4, 130, 2, 1, 94), (4, 133, 2, 2, 97), (4, 143, 1, 2, 67), (4, 153, 1, 3, 71), (5, 12, 5, 0, 203), (5, 16, 5, 1, 204), (5, 20, 5, 2, 205), (5, 24, 5, 3, 206), (5, 27, 5, 4, 207), (5, 34, 5, 5, 208), (5, 49, 4, 2, 152), (5, 58, 4, 3, 154), (5, 85, 4, 4, 156), (5, 107, 4, 6, 160), (5, 111, 2, 0, 91), (5, 130, 4, 0, 148), (5, 137, 3, 1, 196), (5, 140, 3, 0, 194), (5, 151, 1, 0, 64), (5, 154, 1, 2, 68), (5, 163, 1, 3, 70), (5, 184, 4, 5, 158), (5, 199, 4, 7, 162), (5, 203, 0, 0, 118), (5, 209, 0, 3, 123), (5, 212, 0, 4, 125), (5, 213, 0, 5, 127), (5, 216, 0, 6, 129), (5, 219, 2, 1, 95), (5, 222, 2, 2, 98), (5, 225, 2, 3, 101), (5, 226, 4, 1, 150), (5, 229, 0, 2, 121), (6, 7, 6, 0, 580), (6, 13, 6, 1, 581), (6, 16, 6, 3, 583), (6, 19, 6, 5, 585), (6, 26, 6, 2, 582), (6, 89, 6, 7, 587), (6, 92, 6, 6, 586), (6, 95, 6, 8, 588), (6, 110, 6, 4, 584)]
def kg_fll : List (Nat × Nat × Nat × Nat) := kg_fl5.map (fun q => (q.1, q.2.1, q.2.2.1, q.2.2.2.1))
def kg_w1 (w : Cond) : Bool := decide (w ∈ lw_tbl) && goodWord w
theorem kg_w1_of {w : Cond} (h : kg_w1 w = true) : w ∈ kg_T := by simp only [kg_w1, Bool.and_eq_true, decide_eq_true_eq] at h; exact kg_inT h.1 h.2
def kg_flo (q : Nat × Nat × Nat × Nat × Nat) : Bool := decide (q.2.2.1 < 7) && decide (q.2.2.2.1 < kg_nf q.2.2.1) && kg_wp q.2.2.2.2 (.fieldLink (kg_cn q.1) q.2.1 (kg_F q.2.2.1 q.2.2.2.1).1 (kg_F q.2.2.1 q.2.2.2.1).2.1 (kg_F q.2.2.1 q.2.2.2.1).2.2.1)
set_option maxRecDepth 100000 in
theorem kg_fl5_ok : kg_fl5.all kg_flo = true := by decide +kernel
/-- own, pool, method, kind (0 virtual, 1 static, 2 static of a nest mate, 3 constructor, 4 of a nest mate), parameters; places of words -/
def kg_ml8 : List (Nat × Nat × Nat × Nat × Nat × Nat × Nat × Nat) := [(7, 9, 56, 3, 0, 44, 45, 0), (7, 12, 88, 3, 0, 576, 577, 0), (7, 13, 57, 0, 2, 222, 223, 224), (7, 17, 89, 0, 2, 608, 609, 610), (7, 18, 60, 0, 2, 259, 260, 261), (7, 22, 92, 0, 2, 619, 620, 621), (7, 23, 62, 0, 3, 270, 271, 272), (7, 27, 95, 0, 3, 630, 631, 632), (7, 28, 65, 0, 2, 292, 293, 294), (7, 31, 101, 0, 2, 651, 652, 653), (7, 32, 66, 0, 2, 296, 297, 298), (7, 35, 102, 0, 2, 655, 656, 657), (7, 36, 67, 0, 2, 346, 347, 348), (7, 39, 106, 0, 2, 671, 672, 673), (7, 40, 69, 0, 1, 373, 374, 375), (7, 44, 109, 0, 1, 683, 684, 685), (7, 45, 70, 0, 3, 406, 407, 408), (7, 48, 113, 0, 3, 699, 700, 701), (7, 49, 71, 0, 0, 414, 415, 416), (7, 53, 115, 0, 0, 707, 708, 709), (7, 54, 72, 0, 1, 440, 441, 442), (7, 57, 119, 0, 1, 723, 724, 725), (7, 58, 73, 0, 1, 450, 451, 452), (7, 62, 120, 0, 1, 728, 729, 730), (7, 63, 74, 0, 0, 454, 455, 456), (7, 66, 121, 0, 0, 732, 733, 734), (7, 67, 75, 0, 0, 458, 459, 460), (7, 70, 122, 0, 0, 736, 737, 738), (7, 71, 76, 0, 0, 462, 463, 464), (7, 74, 123, 0, 0, 740, 741, 742), (7, 75, 77, 0, 0, 466, 467, 468), (7, 78, 124, 0, 0, 744, 745, 746), (7, 79, 78, 0, 3, 470, 471, 472), (7, 82, 125, 0, 3, 748, 749, 750), (7, 83, 79, 0, 2, 477, 478, 479), (7, 86, 126, 0, 2, 752, 753, 754), (7, 87, 80, 0, 2, 493, 494, 495), (7, 90, 128, 0, 2, 760, 761, 762), (7, 91, 81, 0, 3, 509, 510, 511), (7, 94, 130, 0, 3, 768, 769, 770), (7, 95, 82, 0, 0, 515, 516, 517), (7, 98, 131, 0, 0, 772, 773, 774), (7, 99, 83, 0, 0, 523, 524, 525), (7, 102, 132, 0, 0, 776, 777, 778), (7, 103, 84, 0, 2, 536, 537, 538), (7, 106, 134, 0, 2, 784, 785, 786), (7, 107, 85, 0, 2, 544, 545, 546), (7, 110, 135, 0, 2, 788, 789, 790), (7, 111, 86, 0, 1, 548, 549, 550), (7, 114, 136, 0, 1, 792, 793, 794), (7, 115, 87, 0, 1, 570, 571, 572), (7, 118, 140, 0, 1, 809, 810, 811), (1, 30, 7, 0, 1, 345, 325, 326), (1, 34, 6, 0, 4, 405, 285, 286), (3, 19, 16, 1, 3, 422, 423, 0), (3, 28, 18, 1, 1, 428, 429, 0), (3, 32, 13, 0, 3, 439, 411, 412), (3, 36, 17, 1, 1, 425, 426, 0), (4, 28, 4, 4, 0, 58, 59, 0), (4, 38, 11, 4, 0, 85, 86, 0), (4, 45, 0, 4, 0, 113, 114, 0), (4, 65, 5, 0, 1, 244, 245, 246), (4, 69, 12, 0, 1, 249, 250, 251), (4, 72, 1, 0, 1, 254, 255, 256), (4, 75, 64, 2, 2, 281, 282, 0), (4, 79, 6, 0, 4, 284, 285, 286), (4, 83, 25, 0, 2, 288, 290, 1), (4, 87, 27, 0, 2, 304, 306, 2), (4, 90, 30, 0, 3, 316, 318, 3), (4, 97, 31, 0, 2, 320, 321, 322), (4, 101, 8, 0, 3, 332, 333, 334), (4, 104, 2, 0, 4, 336, 337, 338), (4, 107, 34, 0, 3, 354, 356, 4), (4, 110, 68, 2, 2, 364, 365, 0), (4, 113, 35, 0, 2, 369, 370, 371), (4, 136, 33, 0, 2, 449, 351, 352), (4, 139, 7, 0, 1, 324, 325, 326), (4, 144, 32, 0, 2, 328, 329, 330), (4, 147, 39, 0, 2, 389, 391, 6), (4, 150, 38, 0, 2, 385, 386, 387), (4, 156, 40, 0, 2, 393, 395, 7), (4, 159, 37, 0, 2, 381, 383, 5), (4, 162, 10, 0, 1, 401, 402, 403), (4, 166, 45, 0, 2, 535, 490, 491), (4, 169, 51, 0, 2, 531, 533, 8), (4, 172, 55, 0, 2, 566, 568, 9), (4, 175, 44, 0, 1, 561, 486, 487), (4, 178, 46, 0, 2, 556, 498, 499), (5, 11, 21, 3, 0, 52, 53, 0), (5, 33, 14, 4, 0, 189, 190, 0), (5, 38, 58, 1, 1, 226, 227, 0), (5, 52, 59, 0, 0, 233, 235, 0), (5, 55, 61, 1, 1, 263, 264, 0), (5, 62, 23, 0, 0, 266, 267, 268), (5, 66, 63, 1, 1, 274, 275, 0), (5, 69, 24, 0, 3, 277, 278, 279), (5, 73, 26, 0, 2, 300, 301, 302), (5, 77, 28, 0, 2, 308, 309, 310), (5, 81, 29, 0, 2, 312, 313, 314), (5, 89, 64, 1, 2, 340, 282, 0), (5, 92, 9, 0, 1, 341, 342, 343), (5, 98, 33, 0, 2, 350, 351, 352), (5, 101, 36, 0, 1, 377, 378, 379), (5, 104, 41, 0, 1, 397, 398, 399), (5, 116, 13, 0, 3, 410, 411, 412), (5, 120, 15, 0, 0, 418, 419, 420), (5, 123, 19, 0, 0, 431, 432, 433), (5, 126, 20, 0, 1, 435, 436, 437), (5, 134, 42, 0, 0, 445, 446, 447), (5, 144, 22, 0, 1, 237, 238, 239), (5, 148, 7, 0, 1, 474, 325, 326), (5, 157, 38, 0, 2, 475, 386, 387), (5, 160, 31, 0, 2, 476, 321, 322), (5, 166, 43, 0, 1, 481, 482, 483), (5, 169, 44, 0, 1, 485, 486, 487), (5, 172, 45, 0, 2, 489, 490, 491), (5, 175, 46, 0, 2, 497, 498, 499), (5, 178, 47, 0, 1, 501, 502, 503), (5, 181, 48, 0, 1, 505, 506, 507), (5, 187, 68, 1, 2, 513, 365, 0), (5, 190, 35, 0, 2, 514, 370, 371), (5, 193, 49, 0, 0, 519, 520, 521), (5, 196, 50, 0, 0, 527, 528, 529), (5, 206, 3, 0, 1, 540, 541, 542), (5, 232, 52, 0, 0, 552, 553, 554), (5, 235, 53, 0, 0, 557, 558, 559), (5, 238, 54, 0, 0, 562, 563, 564), (6, 22, 90, 1, 3, 612, 613, 0), (6, 30, 91, 0, 0, 615, 617, 10), (6, 33, 93, 1, 1, 623, 624, 0), (6, 37, 94, 0, 0, 626, 628, 11), (6, 41, 100, 1, 3, 648, 649, 0), (6, 45, 98, 1, 2, 641, 642, 0), (6, 49, 104, 0, 2, 663, 665, 15), (6, 53, 105, 0, 3, 667, 669, 16), (6, 57, 99, 0, 3, 644, 646, 13), (6, 60, 96, 1, 1, 634, 635, 0), (6, 63, 97, 0, 4, 637, 639, 12), (6, 67, 103, 0, 3, 659, 661, 14), (6, 70, 108, 0, 2, 679, 681, 18), (6, 73, 107, 0, 2, 675, 677, 17), (6, 76, 112, 0, 2, 695, 697, 21), (6, 79, 111, 0, 2, 691, 693, 20), (6, 82, 110, 0, 1, 687, 689, 19), (6, 86, 114, 0, 3, 703, 705, 22), (6, 99, 117, 0, 2, 715, 717, 24), (6, 102, 118, 0, 0, 719, 721, 25), (6, 105, 116, 0, 1, 711, 713, 23), (6, 113, 127, 0, 2, 756, 758, 26), (6, 116, 129, 0, 2, 764, 766, 27), (6, 119, 133, 0, 2, 780, 782, 28), (6, 122, 126, 0, 2, 804, 753, 754), (6, 125, 137, 0, 0, 796, 798, 29), (6, 128, 138, 0, 0, 800, 802, 30), (6, 131, 139, 0, 0, 805, 807, 31)]
def kg_mll : List (Nat × Nat × Nat × Nat × Nat) := kg_ml8.map (fun q => (q.1, q.2.1, q.2.2.1, q.2.2.2.1, q.2.2.2.2.1))
def kg_mlo (q : Nat × Nat × Nat × Nat × Nat × Nat × Nat × Nat) : Bool := match q with
  | (o, i, m, k, n, p1, p2, p3) => decide (m < 141) && (match k with
    | 0 => kg_wp p1 (.methodLink (kg_cn o) i (kg_mt m).1) && kg_wp p2 (.instanceMethod (kg_mt m).1) && kg_wp p3 (.selects (kg_mt m).1.cls (kg_mt m).1 (kg_mt m).1)
    | 1 => kg_wp p1 (.methodLink (kg_cn o) i (kg_mt m).1) && kg_wp p2 (.static (kg_mt m).1)
    | 2 => decide ((kg_cn o, i, (kg_mt m).1) ∈ kg_nest) && kg_wp p2 (.static (kg_mt m).1)
    | 3 => kg_wp p1 (.methodLink (kg_cn o) i (kg_mt m).1) && kg_wp p2 (.instanceMethod (kg_mt m).1)
    | _ => decide ((kg_cn o, i, (kg_mt m).1) ∈ kg_nest) && kg_wp p2 (.instanceMethod (kg_mt m).1))
set_option maxRecDepth 100000 in
theorem kg_ml8_ok : kg_ml8.all kg_mlo = true := by decide +kernel
/-- what holds of a method by number -/
def kg_mdo (i : Nat) : Bool := decide ((kg_mt i).1.cls = kg_C (kg_mc i) ∧ kg_mc i < 7 ∧ (kg_mt i).2.2.1 ≤ 11 ∧ (kg_mt i).1.cls ≠ "java/lang/invoke/MethodHandle" ∧ (kg_mt i).1.cls ≠ "java/lang/invoke/VarHandle" ∧ plainName (kg_mt i).1.cls = true)
set_option maxRecDepth 100000 in
theorem kg_md_ok : (List.range 141).all kg_mdo = true := by decide +kernel
def kg_mpo (q : Nat × Nat × Nat × Nat × Nat) : Bool := decide ((parseMethodDescriptor (kg_mt q.2.2.1).1.desc).map (fun d => d.parameters.length) = some q.2.2.2.2)
set_option maxRecDepth 100000 in
theorem kg_mp_ok : kg_mll.all kg_mpo = true := by decide +kernel
theorem kg_ini_ok : (List.range 7).all (fun c => kg_w1 (.initialized (kg_C c))) = true := by decide +kernel
def kg_mio (q : Nat × Nat × Nat × Nat × Nat) : Bool := decide (3 ≤ q.2.2.2.1 → (kg_mt q.2.2.1).1.name = "<init>" ∧ (kg_mt q.2.2.1).2.2.2 = none)
set_option maxRecDepth 100000 in
theorem kg_mi_ok : kg_mll.all kg_mio = true := by decide +kernel
def kg_cll : List (Nat × Nat × Nat) := [(7, 7, 5), (7, 10, 6), (4, 26, 1), (4, 36, 2), (4, 43, 0), (5, 9, 4), (5, 31, 3)]
theorem kg_cll_ok : kg_cll.all (fun q => decide (q.2.2 < 7) && kg_w1 (.classLink (kg_cn q.1) q.2.1 (kg_C q.2.2)) && kg_w1 (.instantiable (kg_C q.2.2) (kg_nf q.2.2)) && kg_w1 (.initialized (kg_C q.2.2)) && (List.range (kg_nf q.2.2)).all (fun k => decide (defaultValue (kg_ft q.2.2 k) = if kg_fr q.2.2 k = true then .null else .int 0))) = true := by decide +kernel
def kg_sfl : List (Nat × Nat × Nat) := [(5, 42, 1001), (5, 46, 1002)]
theorem kg_sfl_ok : kg_sfl.all (fun q => decide (q.2.2 ∈ [1001, 1002, 1003]) && kg_w1 (.fieldLink (kg_cn q.1) q.2.1 "KeyGraves" (kg_sn q.2.2) "[I")) = true := by decide +kernel
def kg_obl : List (Nat × Nat) := [(0, 3), (1, 3), (2, 3), (3, 3), (4, 3), (5, 3), (6, 1)]
theorem kg_obl_ok : kg_obl.all (fun q => kg_w1 (.methodLink (kg_cn q.1) q.2 Lib.objectInit)) = true := by decide +kernel
def kg_acl : List (Nat × Nat) := [(0, 34), (1, 24), (2, 25), (4, 59)]
theorem kg_acl_ok : kg_acl.all (fun q => kg_w1 (.methodLink (kg_cn q.1) q.2 arraycopyName)) = true := by decide +kernel
def kg_mnl : List (Nat × Nat) := [(4, 116), (5, 241)]
theorem kg_mnl_ok : kg_mnl.all (fun q => kg_w1 (.methodLink (kg_cn q.1) q.2 Lib.Math.min.name)) = true := by decide +kernel
def kg_mxl : List (Nat × Nat) := [(4, 121), (5, 246)]
theorem kg_mxl_ok : kg_mxl.all (fun q => kg_w1 (.methodLink (kg_cn q.1) q.2 Lib.Math.max.name)) = true := by decide +kernel
theorem kg_k_obj : Cond.instanceMethod Lib.objectInit ∈ kg_T := kg_w1_of (by decide +kernel)
theorem kg_k_objc : Cond.code Lib.objectInit ⟨#[0xb1]⟩ 1 none ∈ kg_T := kg_inT (List.mem_append_right _ (List.mem_append_left _ (List.mem_of_getElem? (i := 17) rfl : _ ∈ tables_1_1))) rfl
theorem kg_k_min : Cond.code Lib.Math.min.name Lib.Math.min.code 2 (some .int) ∈ kg_T := kg_inT (List.mem_append_right _ (List.mem_append_right _ (List.mem_append_left _ (List.mem_of_getElem? (i := 88) rfl : _ ∈ tables_1_2)))) rfl
theorem kg_k_mins : Cond.static Lib.Math.min.name ∈ kg_T := kg_w1_of (by decide +kernel)
theorem kg_k_max : Cond.code Lib.Math.max.name Lib.Math.max.code 2 (some .int) ∈ kg_T := kg_inT (List.mem_append_right _ (List.mem_append_right _ (List.mem_append_left _ (List.mem_of_getElem? (i := 91) rfl : _ ∈ tables_1_2)))) rfl
theorem kg_k_maxs : Cond.static Lib.Math.max.name ∈ kg_T := kg_w1_of (by decide +kernel)
theorem kg_k_mi : Cond.initialized "java/lang/Math" ∈ kg_T := kg_w1_of (by decide +kernel)
theorem kg_k_ac : Cond.native arraycopyName ∈ kg_T ∧ Cond.static arraycopyName ∈ kg_T ∧ Cond.initialized "java/lang/System" ∈ kg_T := ⟨kg_w1_of (by decide +kernel), kg_w1_of (by decide +kernel), kg_w1_of (by decide +kernel)⟩
def kg_ctl : List (Nat × Nat × Nat) := [(5, 133, 99999), (6, 109, 99999)]
theorem kg_ctl_ok : kg_ctl.all (fun q => kg_w1 (.constant (kg_cn q.1) q.2.1 (nI q.2.2))) = true := by decide +kernel
theorem kg_k_arr : Cond.arrayClass .int ∈ kg_T ∧ Cond.arrayClass .boolean ∈ kg_T ∧ Cond.arrayClass .char ∈ kg_T := ⟨kg_w1_of (by decide +kernel), kg_w1_of (by decide +kernel), kg_w1_of (by decide +kernel)⟩
end
section
/-! CALLS and CONTRACTS over the abstract machine -/
abbrev kg_Qt : Type := Option Value → kg_W → kg_M → Prop
def kg_rm (d N0 NX : Nat) : Room := { frames := d, cells := NX - N0, slots := kg_sz NX - kg_sz N0, locals := 30 * d + 24 }
def kg_wd (i : Nat) : List Cond := .code (kg_mt i).1 (kg_mt i).2.1 (kg_mt i).2.2.1 (kg_mt i).2.2.2 :: kg_T
def kg_Pc (G : kg_G) (args : List Value) (w : kg_W) (M : kg_M) : Array Value → State → Prop := va_Pc (args.map (kg_cv G)) (fun U => kg_Inv G U ∧ kg_WH G w M U.heap ∧ kg_St G U U.heap ∧ kg_b G ≤ U.heap.size)
def kg_Qc (G : kg_G) (NX : Nat) (K : kg_Qt) : Array Value → State → Outcome → State → Prop := fun _ st o t => (∃ (v : Option Value) (w' : kg_W) (M' : kg_M), o = .returned (v.map (kg_cv G)) ∧ w'.1 = NX ∧ K v w' M' ∧ kg_WH G w' M' t.heap) ∧ va_F (kg_A G) st t
/-- method i, called with args at (w, M), at most d deep, answers with K -/
def kg_call (G : kg_G) (d NX i : Nat) (args : List Value) (w : kg_W) (M : kg_M) (K : kg_Qt) : Prop :=
  ∃ d' N1, d' < d ∧ w.1 ≤ N1 ∧ N1 ≤ NX ∧ Met G.1 (kg_mt i).1 (kg_wd i) (kg_rm d' w.1 N1) (kg_Pc G args w M) (kg_Qc G N1 K) (N1 - w.1) (kg_sz N1 - kg_sz w.1) (kg_A G)
/-- the states in which method i stands, called so -/
def kg_X (G : kg_G) (d i N0 NX : Nat) (K : kg_Qt) : kg_Xt := fun p e R s m args below meth c Qf =>
  p.tables.exec = Jvm.exec ∧ c.code = (kg_mt i).2.1 ∧ c.maxLocals = (kg_mt i).2.2.1 ∧ s.vm.findClass (kg_mt i).1.cls = some m.cls ∧ (∀ w ∈ kg_T, w.before args s = true) ∧ kg_Inv G s ∧ kg_St G s s.heap ∧ kg_b G ≤ s.heap.size ∧ R = kg_rm d N0 NX ∧ meth.name = (kg_mt i).1.name ∧ meth.sig.returnType = (kg_mt i).2.2.2 ∧ meth.locks = false ∧ Qf = MQ below (kg_Qc G NX K) args s (NX - N0) (kg_sz NX - kg_sz N0) (kg_A G)
theorem kg_X_B {G : kg_G} {d i N0 NX : Nat} {K : kg_Qt} {own : String} {cc : ByteArray} {nL : Nat} {ini : Bool} (h1 : (kg_mt i).1.cls = own) (h2 : (kg_mt i).2.1 = cc) (h3 : (kg_mt i).2.2.1 = nL) (h4 : ini = true → (kg_mt i).1.name = "<init>") : kg_B G (kg_X G d i N0 NX K) own cc nL d ini N0 NX := by
  intro p e R s m args below meth c Qf ⟨a1, a2, a3, a4, a5, a6, a7, a8, a9, a10, a11, a12, a13⟩
  subst h1; subst h2; subst h3; subst a9
  exact ⟨a1, a2, a3, a4, a5, a6, a7, a8, ⟨Nat.le_refl _, Nat.le_refl _⟩, ⟨Nat.le_refl _, Nat.le_refl _⟩, fun h => a10.trans (h4 h)⟩
def kg_pad (n : Nat) (args : List Value) : List (Option Value) := args.map some ++ List.replicate (n - args.length) none
theorem kg_pad_lg {n : Nat} : ∀ (args : List Value) (k : Nat) {i : Nat} {v : Value}, kg_lg (args.map some ++ List.replicate k none) i = some v → args[i]? = some v
  | [], k, i, v, h => by
    exfalso
    revert i
    induction k with
    | zero => intro i h; simp [kg_lg] at h
    | succ k ih =>
      intro i h
      rw [List.replicate_succ] at h
      cases i with
      | zero => simp [kg_lg] at h
      | succ i => exact ih (i := i) (by simpa [kg_lg] using h)
  | a :: l, k, 0, v, h => by simpa [kg_lg] using h
  | a :: l, k, i + 1, v, h => by
    have := kg_pad_lg (n := n) l k (i := i) (v := v) (by simpa [kg_lg] using h)
    simpa using this
theorem kg_lsl (vs : List Value) (h : ∀ v ∈ vs, v.category = 1) : lg_sl vs = vs.map Slot.val := by
  induction vs with
  | nil => rfl
  | cons a l ih =>
    have h1 := h a List.mem_cons_self
    have h2 := ih (fun v hv => h v (List.mem_cons_of_mem _ hv))
    simp only [lg_sl, List.flatMap_cons, List.map_cons] at h2 ⊢
    rw [h2, if_neg (by omega)]
    rfl
theorem kg_intro {G : kg_G} {d NX i nL : Nat} {args : List Value} {w : kg_W} {M : kg_M} {K : kg_Qt} (hi : i < 141) (hn : (kg_mt i).2.2.1 = nL) (hal : args.length ≤ nL) (hw : w.1 ≤ NX)
    (h : kg_V G (kg_X G d i w.1 NX K) nL w.1 NX 0 (kg_pad nL args) [] w M) : kg_call G (d + 1) NX i args w M K := by
  have hok := List.all_eq_true.mp kg_md_ok i (List.mem_range.mpr hi)
  simp only [kg_mdo, decide_eq_true_eq] at hok
  refine ⟨d, NX, Nat.lt_succ_self d, hw, Nat.le_refl _, ?_⟩
  subst hn
  refine Met.ofW (cc := (kg_mt i).2.1) (maxL := (kg_mt i).2.2.1) (ret := (kg_mt i).2.2.2) hok.2.2.2.2.2 rfl ?_
  intro p e s m args' below meth c s₁ B hml hv
  obtain ⟨rfl, hI, hH, hSt, hb⟩ := hv
  have hts := atoms_spec (ws := kg_wd i) B.pre
  have hX : kg_X G d i w.1 NX K p e (kg_rm d w.1 NX) s m (args.map (kg_cv G)).toArray below meth c (MQ below (kg_Qc G NX K) (args.map (kg_cv G)).toArray s (NX - w.1) (kg_sz NX - kg_sz w.1) (kg_A G)) :=
    ⟨B.exec, B.bytes, hml, findClass_of_methodNamed B.named, fun w hw => hts w (List.mem_cons_of_mem _ hw), hI, hSt, hb, rfl, (name_of_methodNamed B.named B.method).1, B.returns, B.notSynchronized, rfl⟩
  have k := h (Nat.le_refl _) hw p e _ s m _ below meth c _ hX s.heap [] ((lg_sl (args.map (kg_cv G)) ++ List.replicate ((kg_mt i).2.2.1 - (lg_sl (args.map (kg_cv G))).length) Slot.unset).toArray) hH va_S.rf ?_
  · rw [lg_entry_eq]
    rw [Nat.sub_self, Nat.sub_self] at k
    exact k
  · have hc : ∀ v ∈ args.map (kg_cv G), v.category = 1 := fun v hv => by
      obtain ⟨u, -, rfl⟩ := List.mem_map.mp hv
      exact kg_cat G u
    have hle : (lg_sl (args.map (kg_cv G))).length = args.length := by rw [kg_lsl _ hc]; simp
    have hl := lv_entry (args.map (kg_cv G)) (n := (kg_mt i).2.2.1) (by rw [hle]; exact hal)
    refine ⟨hl.1, hl.2.1, fun q hq => ?_⟩
    obtain ⟨v, h1, h2, h3⟩ := kg_cl_of hq
    have h4 := kg_pad_lg (n := 0) args _ h2
    have hlt : q.1 < args.length := (List.getElem?_eq_some_iff.mp h4).1
    rw [kg_lsl _ hc, h3]
    have e : (args.map (kg_cv G))[q.1]? = some (kg_cv G v) := by rw [List.getElem?_map, h4]; rfl
    rw [List.getElem?_toArray, List.getElem?_append_left (by simpa using hlt), List.getElem?_map, e]
    rfl
theorem kg_call_mono {G : kg_G} {d e NX i : Nat} {args : List Value} {w : kg_W} {M : kg_M} {K : kg_Qt} (h : kg_call G d NX i args w M K) (hde : d ≤ e) : kg_call G e NX i args w M K := by
  obtain ⟨d', N1, h1, h2⟩ := h
  exact ⟨d', N1, by omega, h2⟩
section
variable {G : kg_G} {X : kg_Xt} {own : String} {cc : ByteArray} {nL d : Nat} {ini : Bool} {N0 NX : Nat} {pc : Nat} {ls : List (Option Value)} {st : List Value} {w : kg_W} {M : kg_M}
/-- behind a call's run -/
theorem kg_after {p : Program} {e : Env} {R : Room} {s : State} {m : MethodId} {args a : Array Value} {below : List Frame} {meth : Method} {c : Code} {Qf : State → Prop} {H : Heap} {locs : List Loc} {A : Array Slot} {K : kg_Qt} {N1 : Nat} {stc : List Value}
    (hN : w.1 ≤ N1) (hN1 : N1 ≤ NX) (g1 : N0 ≤ w.1) (hX : X p e R s m args below meth c Qf) (hS : va_S (kg_A G) s.heap H locs) (hl : lv_has A nL (kg_cl G nL ls))
    (hr : va_Run p G.1 e R s m args below meth c H locs (w.1 - N0) (kg_sz w.1 - kg_sz N0) (N1 - w.1) (kg_sz N1 - kg_sz w.1) (F0 m pc A stc) (st.map (kg_cv G)) (kg_Qc G N1 K a) (kg_A G))
    (kk : ∀ (v : Option Value) (w' : kg_W) (M' : kg_M), w'.1 = N1 → K v w' M' → kg_V G X nL N0 NX (pc + 3) ls (v.toList ++ st) w' M') : W p G.1 e R s m args below meth c H locs (w.1 - N0) (kg_sz w.1 - kg_sz N0) Qf (F0 m pc A stc) := by
  intro T hT X0
  obtain ⟨v, st₀, t, T', L, h0, X', hL, e1, e2, ⟨⟨v', w', M', ho, hw', hK, hWH⟩, hz, hk⟩, stp⟩ := hr T hT X0
  have m1 := kg_sz_mono hN
  have m2 := kg_sz_mono g1
  cases ho
  rw [h0] at hz hk
  have k := kk v' w' M' hw' hK (by omega) (by omega) p e R s m args below meth c Qf hX T'.heap (locs ++ L) A (by rw [e1]; exact hWH) ⟨by rw [e1]; exact Nat.le_trans hS.1 hz, fun q a1 a2 => by rw [e1, hk q (Nat.lt_of_lt_of_le a1 hS.1) a2]; exact hS.2.1 q a1 a2, fun q hq => (List.mem_append.mp hq).elim (hS.2.2 q) (hL q)⟩ hl
  obtain ⟨t2, a1, b1⟩ := k T' rfl (by rw [hw', show N1 - N0 = w.1 - N0 + (N1 - w.1) by omega, show kg_sz N1 - kg_sz N0 = kg_sz w.1 - kg_sz N0 + (kg_sz N1 - kg_sz w.1) by omega]; exact X')
  refine ⟨t2, stp t2 ?_, b1⟩
  have e9 : (v'.toList ++ st).map (kg_cv G) = (v'.map (kg_cv G)).toList ++ st.map (kg_cv G) := by cases v' <;> simp
  rw [e9] at a1
  exact a1
theorem kg_blind (G : kg_G) (as : List Value) (w : kg_W) (M : kg_M) : FrameBlind (kg_Pc G as w M) := by
  intro a U g mk ⟨h1, h2, h3, h4, h5⟩
  exact ⟨h1, kg_Inv.same (s := U) (U := U.calling g mk a) rfl h2, h3, kg_St.moved (s := U) (U := U.calling g mk a) (Vm.Alike.refl U.vm) h4, h5⟩
theorem kg_pre {s : State} {H : Heap} {locs : List Loc} {as : List Value} (hI : kg_Inv G s) (hSt : kg_St G s s.heap) (hb : kg_b G ≤ s.heap.size) (hH : kg_WH G w M H) (hS : va_S (kg_A G) s.heap H locs) : ∀ U : State, U.heap = H → s.WarmedH U.vm → kg_Pc G as w M (as.map (kg_cv G)).toArray U := by
  intro U hU hW
  refine ⟨rfl, hI.moved hW, by rw [hU]; exact hH, ?_, by rw [hU]; exact Nat.le_trans hb hS.1⟩
  rw [hU]
  exact kg_St.moved hW.alike (hSt.kept hb hS.2.1)
theorem kg_good {l : List Cond} (h : ∀ w ∈ l, w ∈ kg_T) : GoodIn kg_T l := fun w hw => ⟨h w hw, good_of_word (List.mem_filter.mp (h w hw)).2⟩
theorem kg_wd_in {i : Nat} (hi : i < 141) : ∀ w ∈ kg_wd i, w ∈ kg_T := by
  intro w hw
  rcases List.mem_cons.mp hw with rfl | h
  · refine kg_code_in (kg_mt i) ?_
    have hl : i < kg_ms.length := hi
    rw [kg_mt, List.getD_eq_getElem?_getD, List.getElem?_eq_getElem hl]
    exact List.getElem_mem hl
  · exact h
theorem kg_mdf {i : Nat} (hi : i < 141) : (kg_mt i).1.cls = kg_C (kg_mc i) ∧ kg_mc i < 7 ∧ (kg_mt i).2.2.1 ≤ 11 ∧ (kg_mt i).1.cls ≠ "java/lang/invoke/MethodHandle" ∧ (kg_mt i).1.cls ≠ "java/lang/invoke/VarHandle" ∧ plainName (kg_mt i).1.cls = true := by
  have hok := List.all_eq_true.mp kg_md_ok i (List.mem_range.mpr hi)
  simpa only [kg_mdo, decide_eq_true_eq] using hok
theorem kg_iniT {c : Nat} (hc : c < 7) : Cond.initialized (kg_C c) ∈ kg_T := kg_w1_of (List.all_eq_true.mp kg_ini_ok c (List.mem_range.mpr hc))
theorem kg_room {d d' N0 N1 : Nat} {R : Room} {i : Nat} (hi : i < 141) (hd : d' < d) (hR : d ≤ R.frames ∧ 30 * d + 24 ≤ R.locals) : (kg_rm d' N0 N1).frames + 1 ≤ R.frames ∧ 8 + ((kg_mt i).2.2.1 + 11) + (kg_rm d' N0 N1).locals ≤ R.locals := by
  have h := (kg_mdf hi).2.2.1
  simp only [kg_rm]
  omega
theorem kg_cellroom {N1 : Nat} {R : Room} (g1 : N0 ≤ w.1) (h1 : w.1 ≤ N1) (h2 : N1 ≤ NX) (hR : NX - N0 ≤ R.cells ∧ kg_sz NX - kg_sz N0 ≤ R.slots) : w.1 - N0 + (N1 - w.1) ≤ R.cells ∧ kg_sz w.1 - kg_sz N0 + (kg_sz N1 - kg_sz w.1) ≤ R.slots := by
  have m1 := kg_sz_mono g1
  have m2 := kg_sz_mono h1
  have m3 := kg_sz_mono h2
  omega
theorem kg_mll_of {o pool i k n : Nat} (h : (o, pool, i, k, n) ∈ kg_mll) : ∃ p1 p2 p3, kg_mlo (o, pool, i, k, n, p1, p2, p3) = true := by
  obtain ⟨⟨o8, i8, m8, k8, n8, p1, p2, p3⟩, h8, e8⟩ := List.mem_map.mp h
  simp only [Prod.mk.injEq] at e8
  obtain ⟨rfl, rfl, rfl, rfl, rfl⟩ := e8
  exact ⟨p1, p2, p3, List.all_eq_true.mp kg_ml8_ok _ h8⟩
theorem kg_c_virt (hB : kg_B G X own cc nL d ini N0 NX) {K : kg_Qt} {o pool i n p : Nat} {as : List Value} (ho : kg_cn o = own) (hi : i < 141) (hm : (o, pool, i, 0, n) ∈ kg_mll) (hlen : as.length = n) (hp : p < 1000) (hpw : p < w.1) (hkd : kg_kd p = (4, kg_mc i)) (hst : st.length ≤ 8) (hd : decode cc pc = .ok (.invokevirtual pool, 3))
    (kk : kg_call G d NX i (.ref p :: as) w M K) (hK : ∀ v w' M', K v w' M' → kg_V G X nL N0 NX (pc + 3) ls (v.toList ++ st) w' M') : kg_V G X nL N0 NX pc ls (as.reverse ++ .ref p :: st) w M := by
  intro g1 g2 p' e R s m args below meth c' Qf hX H locs A hH hS hl
  obtain ⟨hx, hb, hml, hown, hts, hI, hSt, hbs, hR, hC, -⟩ := hB _ _ _ _ _ _ _ _ _ _ hX
  obtain ⟨d', N1, hd', hw1, hw2, hMet⟩ := kk
  obtain ⟨p1, p2, p3, ok⟩ := kg_mll_of hm
  simp only [kg_mlo, Bool.and_eq_true] at ok
  have okp := List.all_eq_true.mp kg_mp_ok _ hm
  simp only [kg_mpo, decide_eq_true_eq] at okp
  have md := kg_mdf hi
  have hcl := md.1
  subst ho
  refine kg_after (st := st) (K := K) (a := ((Value.ref p :: as).map (kg_cv G)).toArray) hw1 hw2 g1 hX hS hl ?_ (fun v w' M' _ h => hK v w' M' h)
  have cw := cwV (R := R) (s := s) (args := args) (own := kg_cn o) (index := pool) (C := (kg_mt i).1.cls) (y := (kg_mt i).1) (bytes := (kg_mt i).2.1) (maxL := (kg_mt i).2.2.1) (ret := (kg_mt i).2.2.2) (ws := kg_wd i) (ws' := kg_T) (rm := kg_rm d' w.1 N1) (mc := N1 - w.1) (ms := kg_sz N1 - kg_sz w.1) (Ts := kg_T) n hts
    (kg_good (fun w hw => by
      rcases List.mem_append.mp hw with h | h
      · simp only [List.mem_cons, List.not_mem_nil, or_false] at h
        rcases h with rfl | rfl | rfl | rfl
        · exact kg_wp_of ok.2.1.1
        · exact kg_wp_of ok.2.1.2
        · exact kg_wp_of ok.2.2
        · rw [hcl]; exact kg_iniT md.2.1
      · exact kg_wd_in hi w h)) rfl rfl rfl ⟨rfl, md.2.2.2.1, md.2.2.2.2.1, okp⟩ (kg_room hi hd' hR)
  have hpr := kg_pre (as := Value.ref p :: as) hI hSt hbs hH hS
  have hrc := va_recv (q0 := p) (ci := kg_mc i) hI.1 hH.2 (kg_F_cl md.2.1) (by rw [kg_wl_at hpw, kg_ce_o hkd])
  have hst9 : (as.reverse ++ Value.ref p :: st).map (kg_cv G) = (as.map (kg_cv G)).reverse ++ Value.ref (kg_b G + p) :: st.map (kg_cv G) := by simp [kg_cvref G hp]
  rw [List.map_cons, kg_cvref G hp] at hpr ⊢
  rw [← hcl] at hrc
  rw [hst9]
  exact va_runV (As := as.map (kg_cv G)) (rest := st.map (kg_cv G)) (b := kg_b G + p) (g := F0 m pc A ((as.map (kg_cv G)).reverse ++ Value.ref (kg_b G + p) :: st.map (kg_cv G))) ⟨hx, hb, hml, hown, hts⟩ hMet cw ⟨kg_blind _ _ _ _, hrc, hpr⟩ rfl (by simpa using hlen) hl.1 rfl (lv_room (by rw [kg_cats]; exact hst)) hd (kg_cellroom g1 hw1 hw2 hC)
theorem kg_c_stat (hB : kg_B G X own cc nL d ini N0 NX) {K : kg_Qt} {o pool i n : Nat} {as : List Value} (ho : kg_cn o = own) (hi : i < 141) (hm : (o, pool, i, 1, n) ∈ kg_mll) (hlen : as.length = n) (hst : st.length ≤ 8) (hd : decode cc pc = .ok (.invokestatic pool, 3))
    (kk : kg_call G d NX i as w M K) (hK : ∀ v w' M', K v w' M' → kg_V G X nL N0 NX (pc + 3) ls (v.toList ++ st) w' M') : kg_V G X nL N0 NX pc ls (as.reverse ++ st) w M := by
  intro g1 g2 p' e R s m args below meth c' Qf hX H locs A hH hS hl
  obtain ⟨hx, hb, hml, hown, hts, hI, hSt, hbs, hR, hC, -⟩ := hB _ _ _ _ _ _ _ _ _ _ hX
  obtain ⟨d', N1, hd', hw1, hw2, hMet⟩ := kk
  obtain ⟨p1, p2, p3, ok⟩ := kg_mll_of hm
  simp only [kg_mlo, Bool.and_eq_true] at ok
  have okp := List.all_eq_true.mp kg_mp_ok _ hm
  simp only [kg_mpo, decide_eq_true_eq] at okp
  have md := kg_mdf hi
  have hcl := md.1
  subst ho
  refine kg_after (st := st) (K := K) (a := (as.map (kg_cv G)).toArray) hw1 hw2 g1 hX hS hl ?_ (fun v w' M' _ h => hK v w' M' h)
  have cw := va_cwS (R := R) (s := s) (args := args) (own := kg_cn o) (index := pool) (y := (kg_mt i).1) (bytes := (kg_mt i).2.1) (maxL := (kg_mt i).2.2.1) (ret := (kg_mt i).2.2.2) (ws := kg_wd i) (ws' := kg_T) (rm := kg_rm d' w.1 N1) (mc := N1 - w.1) (ms := kg_sz N1 - kg_sz w.1) (Ts := kg_T) n hts
    (kg_good (fun w hw => by
      rcases List.mem_append.mp hw with h | h
      · simp only [List.mem_cons, List.not_mem_nil, or_false] at h
        rcases h with rfl | rfl | rfl
        · exact kg_wp_of ok.2.1
        · exact kg_wp_of ok.2.2
        · rw [hcl]; exact kg_iniT md.2.1
      · exact kg_wd_in hi w h)) rfl rfl rfl ⟨md.2.2.2.1, md.2.2.2.2.1, okp⟩ (kg_room hi hd' hR)
  exact va_runS (As := as.map (kg_cv G)) (rest := st.map (kg_cv G)) (g := F0 m pc A ((as.reverse ++ st).map (kg_cv G))) ⟨hx, hb, hml, hown, hts⟩ hMet cw ⟨kg_blind _ _ _ _, kg_pre hI hSt hbs hH hS⟩ rfl (by simpa using hlen) hl.1 (by simp) (lv_room (by rw [kg_cats]; exact hst)) hd (kg_cellroom g1 hw1 hw2 hC)
theorem kg_c_statN (hB : kg_B G X own cc nL d ini N0 NX) {K : kg_Qt} {o pool i n : Nat} {as : List Value} (ho : kg_cn o = own) (hi : i < 141) (hm : (o, pool, i, 2, n) ∈ kg_mll) (hlen : as.length = n) (hst : st.length ≤ 8) (hd : decode cc pc = .ok (.invokestatic pool, 3))
    (kk : kg_call G d NX i as w M K) (hK : ∀ v w' M', K v w' M' → kg_V G X nL N0 NX (pc + 3) ls (v.toList ++ st) w' M') : kg_V G X nL N0 NX pc ls (as.reverse ++ st) w M := by
  intro g1 g2 p' e R s m args below meth c' Qf hX H locs A hH hS hl
  obtain ⟨hx, hb, hml, hown, hts, hI, hSt, hbs, hR, hC, -⟩ := hB _ _ _ _ _ _ _ _ _ _ hX
  obtain ⟨d', N1, hd', hw1, hw2, hMet⟩ := kk
  obtain ⟨p1, p2, p3, ok⟩ := kg_mll_of hm
  simp only [kg_mlo, Bool.and_eq_true, decide_eq_true_eq] at ok
  have okp := List.all_eq_true.mp kg_mp_ok _ hm
  simp only [kg_mpo, decide_eq_true_eq] at okp
  have md := kg_mdf hi
  have hcl := md.1
  subst ho
  refine kg_after (st := st) (K := K) (a := (as.map (kg_cv G)).toArray) hw1 hw2 g1 hX hS hl ?_ (fun v w' M' _ h => hK v w' M' h)
  have cw := va_cnB (R := R) (s := s) (args := args) (own := kg_cn o) (index := pool) (host := "KeyGraves") (y := (kg_mt i).1) (bytes := (kg_mt i).2.1) (maxL := (kg_mt i).2.2.1) (ret := (kg_mt i).2.2.2) (ws := kg_wd i) (ws' := kg_T) (rm := kg_rm d' w.1 N1) (mc := N1 - w.1) (ms := kg_sz N1 - kg_sz w.1) (Ts := kg_T) n hts (kg_good (kg_wd_in hi)) rfl rfl rfl (hI.2.1 _ ok.2.1) (by rw [hcl]; exact hts _ (kg_iniT md.2.1)) ⟨md.2.2.2.1, md.2.2.2.2.1, okp⟩ (kg_room hi hd' hR)
  exact va_runSN (As := as.map (kg_cv G)) (rest := st.map (kg_cv G)) (g := F0 m pc A ((as.reverse ++ st).map (kg_cv G))) ⟨hx, hb, hml, hown, hts⟩ hMet ⟨cw, hts _ (kg_wp_of ok.2.2), trivial⟩ ⟨kg_blind _ _ _ _, kg_pre hI hSt hbs hH hS⟩ rfl (by simpa using hlen) hl.1 (by simp) (lv_room (by rw [kg_cats]; exact hst)) hd (kg_cellroom g1 hw1 hw2 hC)
theorem kg_c_init (hB : kg_B G X own cc nL d ini N0 NX) {K : kg_Qt} {o pool i p : Nat} (ho : kg_cn o = own) (hi : i < 141) (hm : (o, pool, i, 3, 0) ∈ kg_mll) (hp : p < 1000) (hst : st.length ≤ 8) (hd : decode cc pc = .ok (.invokespecial pool, 3))
    (kk : kg_call G d NX i [.ref p] w M K) (hK : ∀ v w' M', K v w' M' → kg_V G X nL N0 NX (pc + 3) ls (v.toList ++ st) w' M') : kg_V G X nL N0 NX pc ls (.ref p :: st) w M := by
  intro g1 g2 p' e R s m args below meth c' Qf hX H locs A hH hS hl
  obtain ⟨hx, hb, hml, hown, hts, hI, hSt, hbs, hR, hC, -⟩ := hB _ _ _ _ _ _ _ _ _ _ hX
  obtain ⟨d', N1, hd', hw1, hw2, hMet⟩ := kk
  obtain ⟨p1, p2, p3, ok⟩ := kg_mll_of hm
  simp only [kg_mlo, Bool.and_eq_true] at ok
  have okp := List.all_eq_true.mp kg_mp_ok _ hm
  simp only [kg_mpo, decide_eq_true_eq] at okp
  have oki := List.all_eq_true.mp kg_mi_ok _ hm
  simp only [kg_mio, decide_eq_true_eq] at oki
  have oki := oki (Nat.le_refl 3)
  have md := kg_mdf hi
  have hcl := md.1
  subst ho
  refine kg_after (st := st) (K := K) (a := ([Value.ref p].map (kg_cv G)).toArray) hw1 hw2 g1 hX hS hl ?_ (fun v w' M' _ h => hK v w' M' h)
  have hwd : kg_wd i = Cond.code (kg_mt i).1 (kg_mt i).2.1 (kg_mt i).2.2.1 none :: kg_T := by rw [kg_wd, oki.2]
  have cw := cwI (R := R) (s := s) (args := args) (own := kg_cn o) (index := pool) (y := (kg_mt i).1) (bytes := (kg_mt i).2.1) (maxL := (kg_mt i).2.2.1) (ws := kg_wd i) (ws' := kg_T) (rm := kg_rm d' w.1 N1) (mc := N1 - w.1) (ms := kg_sz N1 - kg_sz w.1) (Ts := kg_T) 0 hts (kg_good (kg_wd_in hi)) hwd rfl rfl (by rw [hcl]; exact hts _ (kg_iniT md.2.1)) (hts _ (kg_wp_of ok.2.1)) (hts _ (kg_wp_of ok.2.2)) oki.1 ⟨md.2.2.2.1, md.2.2.2.2.1, okp⟩ (kg_room hi hd' hR)
  have hpr := kg_pre (as := [Value.ref p]) hI hSt hbs hH hS
  rw [List.map_cons, kg_cvref G hp] at hpr ⊢
  exact va_runI (As := []) (rest := st.map (kg_cv G)) (b := kg_b G + p) (g := F0 m pc A (Value.ref (kg_b G + p) :: st.map (kg_cv G))) ⟨hx, hb, hml, hown, hts⟩ hMet cw ⟨kg_blind _ _ _ _, hpr⟩ rfl rfl hl.1 rfl (lv_room (by rw [kg_cats]; exact hst)) hd (kg_cellroom g1 hw1 hw2 hC)
theorem kg_c_initN (hB : kg_B G X own cc nL d ini N0 NX) {K : kg_Qt} {o pool i p : Nat} (ho : kg_cn o = own) (hi : i < 141) (hm : (o, pool, i, 4, 0) ∈ kg_mll) (hp : p < 1000) (hst : st.length ≤ 8) (hd : decode cc pc = .ok (.invokespecial pool, 3))
    (kk : kg_call G d NX i [.ref p] w M K) (hK : ∀ v w' M', K v w' M' → kg_V G X nL N0 NX (pc + 3) ls (v.toList ++ st) w' M') : kg_V G X nL N0 NX pc ls (.ref p :: st) w M := by
  intro g1 g2 p' e R s m args below meth c' Qf hX H locs A hH hS hl
  obtain ⟨hx, hb, hml, hown, hts, hI, hSt, hbs, hR, hC, -⟩ := hB _ _ _ _ _ _ _ _ _ _ hX
  obtain ⟨d', N1, hd', hw1, hw2, hMet⟩ := kk
  obtain ⟨p1, p2, p3, ok⟩ := kg_mll_of hm
  simp only [kg_mlo, Bool.and_eq_true, decide_eq_true_eq] at ok
  have okp := List.all_eq_true.mp kg_mp_ok _ hm
  simp only [kg_mpo, decide_eq_true_eq] at okp
  have oki := List.all_eq_true.mp kg_mi_ok _ hm
  simp only [kg_mio, decide_eq_true_eq] at oki
  have oki := oki (by omega)
  have md := kg_mdf hi
  have hcl := md.1
  subst ho
  refine kg_after (st := st) (K := K) (a := ([Value.ref p].map (kg_cv G)).toArray) hw1 hw2 g1 hX hS hl ?_ (fun v w' M' _ h => hK v w' M' h)
  have hwd : kg_wd i = Cond.code (kg_mt i).1 (kg_mt i).2.1 (kg_mt i).2.2.1 none :: kg_T := by rw [kg_wd, oki.2]
  have cw := va_cnB (R := R) (s := s) (args := args) (own := kg_cn o) (index := pool) (host := "KeyGraves") (y := (kg_mt i).1) (bytes := (kg_mt i).2.1) (maxL := (kg_mt i).2.2.1) (ret := none) (ws := kg_wd i) (ws' := kg_T) (rm := kg_rm d' w.1 N1) (mc := N1 - w.1) (ms := kg_sz N1 - kg_sz w.1) (Ts := kg_T) 0 hts (kg_good (kg_wd_in hi)) hwd rfl rfl (hI.2.1 _ ok.2.1) (by rw [hcl]; exact hts _ (kg_iniT md.2.1)) ⟨md.2.2.2.1, md.2.2.2.2.1, okp⟩ (kg_room hi hd' hR)
  have hpr := kg_pre (as := [Value.ref p]) hI hSt hbs hH hS
  rw [List.map_cons, kg_cvref G hp] at hpr ⊢
  exact va_runIN (As := []) (rest := st.map (kg_cv G)) (b := kg_b G + p) (g := F0 m pc A (Value.ref (kg_b G + p) :: st.map (kg_cv G))) ⟨hx, hb, hml, hown, hts⟩ hMet ⟨cw, oki.1, hts _ (kg_wp_of ok.2.2)⟩ ⟨kg_blind _ _ _ _, hpr⟩ rfl rfl hl.1 rfl (lv_room (by rw [kg_cats]; exact hst)) hd (kg_cellroom g1 hw1 hw2 hC)
end
section
variable {G : kg_G} {d i N0 NX nL pc : Nat} {K : kg_Qt} {ls : List (Option Value)} {w : kg_W} {M : kg_M} {cc : ByteArray}
theorem kg_r_iret (hc : (kg_mt i).2.1 = cc) {x : Int32} (hd : decode cc pc = .ok (.ireturn, 1)) (hw : w.1 = NX) (ht : (kg_mt i).2.2.2 = some .int ∨ ((kg_mt i).2.2.2 = some .boolean ∧ (x = nI 0 ∨ x = nI 1))) (k : K (some (.int x)) w M) : kg_V G (kg_X G d i N0 NX K) nL N0 NX pc ls [.int x] w M := by
  intro g1 g2 p' e R s m args below meth c' Qf ⟨a1, a2, a3, a4, a5, a6, a7, a8, a9, a10, a11, a12, a13⟩ H locs A hH hS hl
  subst a13; subst hw; subst hc
  rcases ht with ht | ⟨ht, hx⟩
  · exact W.zret (ty := .int) a1 a2 (a11.trans ht) rfl (fun t ht _ => ⟨⟨some (.int x), w, M, rfl, rfl, k, by rw [ht]; exact hH⟩, hS.F ht⟩) hS.2.2 hd a12
  · exact W.zret (ty := .boolean) a1 a2 (a11.trans ht) (by rcases hx with rfl | rfl <;> rfl) (fun t ht _ => ⟨⟨some (.int x), w, M, rfl, rfl, k, by rw [ht]; exact hH⟩, hS.F ht⟩) hS.2.2 hd a12
theorem kg_r_vret (hc : (kg_mt i).2.1 = cc) (hd : decode cc pc = .ok (.return_, 1)) (hw : w.1 = NX) (ht : (kg_mt i).2.2.2 = none) (k : K none w M) : kg_V G (kg_X G d i N0 NX K) nL N0 NX pc ls [] w M := by
  intro g1 g2 p' e R s m args below meth c' Qf ⟨a1, a2, a3, a4, a5, a6, a7, a8, a9, a10, a11, a12, a13⟩ H locs A hH hS hl
  subst a13; subst hw; subst hc
  exact W.vret a1 a2 (a11.trans ht) (fun t ht _ => ⟨⟨none, w, M, rfl, rfl, k, by rw [ht]; exact hH⟩, hS.F ht⟩) hS.2.2 hd a12
end
end
section
/-! THE RUN: a method's rows as numbers, what they do, and that the machine does it -/
abbrev kg_Op : Type := Nat × Nat × Nat × Nat × List (Nat × Nat)
abbrev kg_K : Type := Nat → List (Option Value) → List Value → kg_W → kg_M → Prop
abbrev kg_Ct : Type := Nat → List Value → kg_W → kg_M → kg_Qt → Prop
def kg_n (a : Nat) : Int32 := Int32.ofInt (-(a : Int))
def kg_at (n : Nat) (i : Int32) (K : Nat → Prop) : Prop := ∃ j, j < n ∧ i = nI j ∧ K j
def kg_kont (k : kg_K) (nx : Nat) (ls : List (Option Value)) (r : List Value) : kg_Qt := fun v w M => k nx ls (v.toList ++ r) w M
def kg_args : Nat → List Value → List Value → (List Value → List Value → Prop) → Prop
  | 0, st, acc, K => K acc st
  | _ + 1, [], _, _ => False
  | n + 1, v :: st, acc, K => kg_args n st (v :: acc) K
def kg_br (c A B : Prop) : Prop := (c → A) ∧ (¬ c → B)
def kg_sw : List (Nat × Nat) → Nat → Int32 → (Nat → Prop) → Prop
  | [], d, _, K => K d
  | (z, t) :: l, d, x, K => (x = nI z → K t) ∧ (¬ x = nI z → kg_sw l d x K)
def kg_vi (o : Option Value) (K : Int32 → Prop) : Prop := match o with
  | some (.int x) => K x
  | _ => False
def kg_vr (o : Option Value) (K : Nat → Prop) : Prop := match o with
  | some (.ref x) => K x
  | _ => False
def kg_1i (st : List Value) (K : Int32 → List Value → Prop) : Prop := match st with
  | .int x :: r => K x r
  | _ => False
def kg_1r (st : List Value) (K : Nat → List Value → Prop) : Prop := match st with
  | .ref x :: r => K x r
  | _ => False
def kg_2i (st : List Value) (K : Int32 → Int32 → List Value → Prop) : Prop := match st with
  | .int y :: .int x :: r => K x y r
  | _ => False
def kg_ir (st : List Value) (K : Int32 → Nat → List Value → Prop) : Prop := match st with
  | .int i :: .ref p :: r => K i p r
  | _ => False
def kg_iir (st : List Value) (K : Int32 → Int32 → Nat → List Value → Prop) : Prop := match st with
  | .int x :: .int i :: .ref p :: r => K x i p r
  | _ => False
def kg_01 (x : Int32) : Prop := x = nI 0 ∨ x = nI 1
/-- a load of an int array's place -/
def kg_ld (G : kg_G) (w : kg_W) (M : kg_M) (i : Int32) (p : Nat) (K : Int32 → Prop) : Prop :=
  (p = 1000 → kg_at G.2.2.2.2.2.1 i (fun j => K (G.2.2.2.2.2.2 j))) ∧ (1000 < p → p ≤ 1003 ∧ kg_at 5 i (fun j => K (kg_sv p j))) ∧ (p < 1000 → p < w.1 ∧ (kg_kd p).1 = 0 ∧ kg_at (kg_kd p).2 i (fun j => K (M p j)))
def kg_obj (w : kg_W) (p c : Nat) (P : Prop) : Prop := p < w.1 ∧ p < 1000 ∧ kg_kd p = (4, c) ∧ P
def kg_exs (G : kg_G) (NX : Nat) (call : kg_Ct) (ret : kg_Qt) (t a b c : Nat) (l : List (Nat × Nat)) (nx : Nat) (k : kg_K) (ls : List (Option Value)) (st : List Value) (w : kg_W) (M : kg_M) : Prop := match t with
  | 0 => k nx ls (.int (nI a) :: st) w M
  | 1 => k nx ls (.int (kg_n a) :: st) w M
  | 2 => kg_vi (kg_lg ls a) (fun x => k nx ls (.int x :: st) w M)
  | 3 => kg_vr (kg_lg ls a) (fun x => k nx ls (.ref x :: st) w M)
  | 4 => kg_1i st (fun x r => k nx (kg_ls ls a (.int x)) r w M)
  | 5 => kg_1r st (fun x r => k nx (kg_ls ls a (.ref x)) r w M)
  | 6 => kg_vi (kg_lg ls a) (fun x => k nx (kg_ls ls a (.int (x + nI b))) st w M)
  | 7 => kg_2i st (fun x y r => k nx ls (.int (x + y) :: r) w M)
  | 8 => kg_2i st (fun x y r => k nx ls (.int (x - y) :: r) w M)
  | 9 => kg_2i st (fun x y r => k nx ls (.int (x * y) :: r) w M)
  | 10 => kg_2i st (fun x y r => ¬ y = 0 ∧ k nx ls (.int (x - x / y * y) :: r) w M)
  | 11 => kg_2i st (fun x y r => k nx ls (.int (x &&& y) :: r) w M)
  | 12 => kg_1i st (fun x r => k nx ls (.int (x.toUInt32 % 65536).toInt32 :: r) w M)
  | 13 => (match st with | v :: r => k nx ls (v :: v :: r) w M | _ => False)
  | 14 => (match st with | v :: u :: r => k nx ls (v :: u :: v :: u :: r) w M | _ => False)
  | 15 => (match st with | _ :: r => k nx ls r w M | _ => False)
  | 16 => kg_1i st (fun x r => kg_br (kg_cmp a x (nI 0)) (k b ls r w M) (k nx ls r w M))
  | 17 => kg_2i st (fun x y r => kg_br (kg_cmp a x y) (k b ls r w M) (k nx ls r w M))
  | 18 => k b ls st w M
  | 19 => kg_1i st (fun x r => kg_sw l b x (fun t => k t ls r w M))
  | 20 => kg_1i st (fun x r => kg_sw l b x (fun t => k t ls r w M))
  | 21 => kg_1r st (fun p r => kg_obj w p a (k nx ls (.int (M p b) :: r) w M))
  | 22 => kg_1r st (fun p r => kg_obj w p a (w.2 p b ≠ 0 ∧ w.2 p b < 1000 ∧ k nx ls (.ref (w.2 p b) :: r) w M))
  | 23 => (match st with | .int x :: .ref p :: r => kg_obj w p a (k nx ls r w (kg_wr M p b x)) | _ => False)
  | 24 => (match st with | .int x :: .ref p :: r => kg_obj w p a (kg_01 x ∧ k nx ls r w (kg_wr M p b x)) | _ => False)
  | 25 => (match st with | .ref q :: .ref p :: r => kg_obj w p a (q ≠ 0 ∧ q < 1000 ∧ k nx ls r (kg_wrr w p b q) M) | _ => False)
  | 26 => k nx ls (.ref a :: st) w M
  | 27 => kg_ir st (fun i p r => kg_ld G w M i p (fun x => k nx ls (.int x :: r) w M))
  | 28 => kg_ir st (fun i p r => p < w.1 ∧ p < 1000 ∧ (kg_kd p).1 = 1 ∧ kg_at (kg_kd p).2 i (fun j => k nx ls (.int (M p j) :: r) w M))
  | 29 => kg_ir st (fun i p r => p < w.1 ∧ p < 1000 ∧ (kg_kd p).1 = 2 ∧ kg_at (kg_kd p).2 i (fun j => k nx ls (.int (M p j) :: r) w M))
  | 30 => kg_ir st (fun i p r => p < w.1 ∧ p < 1000 ∧ (kg_kd p).1 = 3 ∧ kg_at (kg_kd p).2 i (fun j => w.2 p j ≠ 0 ∧ w.2 p j < 1000 ∧ k nx ls (.ref (w.2 p j) :: r) w M))
  | 31 => kg_iir st (fun x i p r => p < w.1 ∧ p < 1000 ∧ (kg_kd p).1 = 0 ∧ kg_at (kg_kd p).2 i (fun j => k nx ls r w (kg_wr M p j x)))
  | 32 => kg_iir st (fun x i p r => p < w.1 ∧ p < 1000 ∧ (kg_kd p).1 = 1 ∧ kg_01 x ∧ kg_at (kg_kd p).2 i (fun j => k nx ls r w (kg_wr M p j x)))
  | 33 => kg_iir st (fun x i p r => p < w.1 ∧ p < 1000 ∧ (kg_kd p).1 = 2 ∧ kg_at 65536 x (fun z => kg_at (kg_kd p).2 i (fun j => k nx ls r w (kg_wr M p j (nI z)))))
  | 34 => (match st with | .ref q :: .int i :: .ref p :: r => p < w.1 ∧ p < 1000 ∧ (kg_kd p).1 = 3 ∧ q ≠ 0 ∧ q < 1000 ∧ q < w.1 ∧ kg_kd q = (4, 4) ∧ kg_at (kg_kd p).2 i (fun j => k nx ls r (kg_wrr w p j q) M) | _ => False)
  | 35 => (match st with | .ref p :: r => p = 1000 ∧ k nx ls (.int (nI G.2.2.2.2.2.1) :: r) w M | _ => False)
  | 36 => w.1 < 129 ∧ w.1 + 1 ≤ NX ∧ kg_kd w.1 = (4, a) ∧ k nx ls (.ref w.1 :: st) (kg_new w (fun _ => 0)) (kg_row M w.1 (fun _ => 0))
  | 37 => kg_1i st (fun n r => w.1 < 129 ∧ w.1 + 1 ≤ NX ∧ (kg_kd w.1).1 = a ∧ n = nI (kg_kd w.1).2 ∧ k nx ls (.ref w.1 :: r) (kg_new w (fun _ => 0)) (kg_row M w.1 (fun _ => 0)))
  | 38 => kg_1i st (fun n r => w.1 < 129 ∧ w.1 + 1 ≤ NX ∧ (kg_kd w.1).1 = 3 ∧ n = nI (kg_kd w.1).2 ∧ k nx ls (.ref w.1 :: r) (kg_new w (fun _ => 0)) (kg_row M w.1 (fun _ => 0)))
  | 39 => kg_args b st [] (fun as r => match as with | .ref p :: _ => r.length ≤ 8 ∧ p < w.1 ∧ p < 1000 ∧ kg_kd p = (4, kg_mc a) ∧ call a as w M (kg_kont k nx ls r) | _ => False)
  | 40 => kg_args b st [] (fun as r => r.length ≤ 8 ∧ call a as w M (kg_kont k nx ls r))
  | 41 => kg_args b st [] (fun as r => r.length ≤ 8 ∧ call a as w M (kg_kont k nx ls r))
  | 42 => kg_1r st (fun p r => p < 1000 ∧ r.length ≤ 8 ∧ call a [.ref p] w M (kg_kont k nx ls r))
  | 43 => kg_1r st (fun p r => p < 1000 ∧ r.length ≤ 8 ∧ call a [.ref p] w M (kg_kont k nx ls r))
  | 44 => kg_1r st (fun p r => r.length ≤ 8 ∧ k nx ls r w M)
  | 45 => kg_2i st (fun x y r => r.length ≤ 8 ∧ k nx ls (.int (if y < x then y else x) :: r) w M)
  | 46 => kg_2i st (fun x y r => r.length ≤ 8 ∧ k nx ls (.int (if x < y then y else x) :: r) w M)
  | 47 => (match st with | .int n :: .int z2 :: .ref q :: .int z1 :: .ref p :: r => r.length ≤ 6 ∧ ¬ w.1 < 129 ∧ z1 = nI 0 ∧ z2 = nI 0 ∧ p < w.1 ∧ p < 1000 ∧ q < w.1 ∧ q < 1000 ∧ (kg_kd p).1 = 0 ∧ (kg_kd q).1 = 0 ∧ ∃ j, j < 2 ^ 31 ∧ n = nI j ∧ j ≤ (kg_kd p).2 ∧ j ≤ (kg_kd q).2 ∧ k nx ls r w (kg_cpy M p q j) | _ => False)
  | 48 => (match st with | [.int x] => ret (some (.int x)) w M | _ => False)
  | 49 => (match st with | [] => ret none w M | _ => False)
  | _ => False
/-- a row of numbers fits the bytes and the tables -/
def kg_okb (o : Nat) (ini : Bool) (nL : Nat) (cc : ByteArray) (pc nx t a b c : Nat) (l : List (Nat × Nat)) : Bool := match t with
  | 0 => decide ((nx = pc + 1 ∧ decode cc pc = .ok (.iconst a, 1) ∧ Int32.ofInt a = nI a) ∨ (nx = pc + 2 ∧ decode cc pc = .ok (.bipush a, 2) ∧ (Int8.ofInt a).toInt32 = nI a) ∨ (nx = pc + 3 ∧ decode cc pc = .ok (.sipush a, 3) ∧ (Int16.ofInt a).toInt32 = nI a) ∨ (nx = pc + 2 ∧ decode cc pc = .ok (.ldc c, 2) ∧ (o, c, a) ∈ kg_ctl))
  | 1 => decide ((nx = pc + 1 ∧ decode cc pc = .ok (.iconst (-(a : Int)), 1) ∧ Int32.ofInt (-(a : Int)) = kg_n a) ∨ (nx = pc + 2 ∧ decode cc pc = .ok (.bipush (-(a : Int)), 2) ∧ (Int8.ofInt (-(a : Int))).toInt32 = kg_n a))
  | 2 => decide (a < nL ∧ ((nx = pc + 1 ∧ a < 4 ∧ decode cc pc = .ok (.iload_n (Fin.ofNat 4 a), 1)) ∨ (nx = pc + 2 ∧ decode cc pc = .ok (.iload a, 2))))
  | 3 => decide (a < nL ∧ ((nx = pc + 1 ∧ a < 4 ∧ decode cc pc = .ok (.aload_n (Fin.ofNat 4 a), 1)) ∨ (nx = pc + 2 ∧ decode cc pc = .ok (.aload a, 2))))
  | 4 => decide (a < nL ∧ ((nx = pc + 1 ∧ a < 4 ∧ decode cc pc = .ok (.istore_n (Fin.ofNat 4 a), 1)) ∨ (nx = pc + 2 ∧ decode cc pc = .ok (.istore a, 2))))
  | 5 => decide (a < nL ∧ ((nx = pc + 1 ∧ a < 4 ∧ decode cc pc = .ok (.astore_n (Fin.ofNat 4 a), 1)) ∨ (nx = pc + 2 ∧ decode cc pc = .ok (.astore a, 2))))
  | 6 => decide (a < nL ∧ nx = pc + 3 ∧ decode cc pc = .ok (.iinc a b, 3) ∧ Int32.ofInt b = nI b)
  | 7 => decide (nx = pc + 1 ∧ decode cc pc = .ok (.iadd, 1))
  | 8 => decide (nx = pc + 1 ∧ decode cc pc = .ok (.isub, 1))
  | 9 => decide (nx = pc + 1 ∧ decode cc pc = .ok (.imul, 1))
  | 10 => decide (nx = pc + 1 ∧ decode cc pc = .ok (.irem, 1))
  | 11 => decide (nx = pc + 1 ∧ decode cc pc = .ok (.iand, 1))
  | 12 => decide (nx = pc + 1 ∧ decode cc pc = .ok (.i2c, 1))
  | 13 => decide (nx = pc + 1 ∧ decode cc pc = .ok (.dup, 1))
  | 14 => decide (nx = pc + 1 ∧ decode cc pc = .ok (.dup2, 1))
  | 15 => decide (nx = pc + 1 ∧ decode cc pc = .ok (.pop, 1))
  | 16 => decide (nx = pc + 3 ∧ decode cc pc = .ok (.ifCond (kg_cond a) ((b : Int) - pc), 3))
  | 17 => decide (nx = pc + 3 ∧ decode cc pc = .ok (.if_icmp (kg_cond a) ((b : Int) - pc), 3))
  | 18 => decide (decode cc pc = .ok (.goto ((b : Int) - pc), 3))
  | 19 => decide (l.length < 2 ^ 30 ∧ a < 2 ^ 30 ∧ l.map (fun q => q.1) = (List.range l.length).map (fun i => a + i) ∧ decode cc pc = .ok (.tableswitch ((b : Int) - pc) a ((a : Int) + l.length - 1) (l.map (fun q => (q.2 : Int) - pc)).toArray, c))
  | 20 => decide (l.all (fun q => decide (q.1 < 2 ^ 31)) = true ∧ ((l.map (fun q => ((q.1 : Int), (q.2 : Int) - pc))).toArray.toList.zip ((l.map (fun q => ((q.1 : Int), (q.2 : Int) - pc))).toArray.toList.drop 1)).all (fun (a, next) => a.1 < next.1) = true ∧ decode cc pc = .ok (.lookupswitch ((b : Int) - pc) (l.map (fun q => ((q.1 : Int), (q.2 : Int) - pc))).toArray, c))
  | 21 => decide (nx = pc + 3 ∧ (o, c, a, b) ∈ kg_fll ∧ kg_fr a b = false ∧ decode cc pc = .ok (.getfield c, 3))
  | 22 => decide (nx = pc + 3 ∧ (o, c, a, b) ∈ kg_fll ∧ kg_fr a b = true ∧ decode cc pc = .ok (.getfield c, 3))
  | 23 => decide (nx = pc + 3 ∧ (o, c, a, b) ∈ kg_fll ∧ kg_fr a b = false ∧ kg_ft a b = .int ∧ ((kg_F a b).2.2.2 = false ∨ (ini = true ∧ (kg_F a b).1 = kg_cn o)) ∧ decode cc pc = .ok (.putfield c, 3))
  | 24 => decide (nx = pc + 3 ∧ (o, c, a, b) ∈ kg_fll ∧ kg_fr a b = false ∧ kg_ft a b = .boolean ∧ ((kg_F a b).2.2.2 = false ∨ (ini = true ∧ (kg_F a b).1 = kg_cn o)) ∧ decode cc pc = .ok (.putfield c, 3))
  | 25 => decide (nx = pc + 3 ∧ (o, c, a, b) ∈ kg_fll ∧ kg_fr a b = true ∧ (match kg_ft a b with | .array _ => true | .object _ => true | _ => false) = true ∧ ((kg_F a b).2.2.2 = false ∨ (ini = true ∧ (kg_F a b).1 = kg_cn o)) ∧ decode cc pc = .ok (.putfield c, 3))
  | 26 => decide (nx = pc + 3 ∧ a ∈ [1001, 1002, 1003] ∧ ((o, c, a) ∈ kg_sfl ∨ (o = 4 ∧ c = 56 ∧ a = 1003)) ∧ decode cc pc = .ok (.getstatic c, 3))
  | 27 => decide (nx = pc + 1 ∧ decode cc pc = .ok (.iaload, 1))
  | 28 => decide (nx = pc + 1 ∧ decode cc pc = .ok (.baload, 1))
  | 29 => decide (nx = pc + 1 ∧ decode cc pc = .ok (.caload, 1))
  | 30 => decide (nx = pc + 1 ∧ decode cc pc = .ok (.aaload, 1))
  | 31 => decide (nx = pc + 1 ∧ decode cc pc = .ok (.iastore, 1))
  | 32 => decide (nx = pc + 1 ∧ decode cc pc = .ok (.bastore, 1))
  | 33 => decide (nx = pc + 1 ∧ decode cc pc = .ok (.castore, 1))
  | 34 => decide (nx = pc + 1 ∧ decode cc pc = .ok (.aastore, 1))
  | 35 => decide (nx = pc + 1 ∧ decode cc pc = .ok (.arraylength, 1))
  | 36 => decide (nx = pc + 3 ∧ (o, c, a) ∈ kg_cll ∧ decode cc pc = .ok (.new c, 3))
  | 37 => decide (nx = pc + 2 ∧ ((a = 0 ∧ decode cc pc = .ok (.newarray .int, 2)) ∨ (a = 1 ∧ decode cc pc = .ok (.newarray .boolean, 2)) ∨ (a = 2 ∧ decode cc pc = .ok (.newarray .char, 2))))
  | 38 => decide (nx = pc + 3 ∧ (o, c, 4) ∈ kg_cll ∧ decode cc pc = .ok (.anewarray c, 3))
  | 39 => decide (nx = pc + 3 ∧ a < 141 ∧ (o, c, a, 0, b - 1) ∈ kg_mll ∧ decode cc pc = .ok (.invokevirtual c, 3))
  | 40 => decide (nx = pc + 3 ∧ a < 141 ∧ (o, c, a, 1, b) ∈ kg_mll ∧ decode cc pc = .ok (.invokestatic c, 3))
  | 41 => decide (nx = pc + 3 ∧ a < 141 ∧ (o, c, a, 2, b) ∈ kg_mll ∧ decode cc pc = .ok (.invokestatic c, 3))
  | 42 => decide (nx = pc + 3 ∧ a < 141 ∧ (o, c, a, 3, 0) ∈ kg_mll ∧ decode cc pc = .ok (.invokespecial c, 3))
  | 43 => decide (nx = pc + 3 ∧ a < 141 ∧ (o, c, a, 4, 0) ∈ kg_mll ∧ decode cc pc = .ok (.invokespecial c, 3))
  | 44 => decide (nx = pc + 3 ∧ (o, c) ∈ kg_obl ∧ decode cc pc = .ok (.invokespecial c, 3))
  | 45 => decide (nx = pc + 3 ∧ (o, c) ∈ kg_mnl ∧ decode cc pc = .ok (.invokestatic c, 3))
  | 46 => decide (nx = pc + 3 ∧ (o, c) ∈ kg_mxl ∧ decode cc pc = .ok (.invokestatic c, 3))
  | 47 => decide (nx = pc + 3 ∧ (o, c) ∈ kg_acl ∧ decode cc pc = .ok (.invokestatic c, 3))
  | 48 => decide (decode cc pc = .ok (.ireturn, 1))
  | 49 => decide (decode cc pc = .ok (.return_, 1))
  | _ => false
abbrev kg_Cd : Type := List (Nat × Nat × kg_Op)
def kg_lk : kg_Cd → Nat → Option (Nat × kg_Op)
  | [], _ => none
  | (p, q) :: l, pc => if p = pc then some q else kg_lk l pc
def kg_exo (G : kg_G) (NX : Nat) (call : kg_Ct) (ret : kg_Qt) (o : Option (Nat × kg_Op)) (k : kg_K) (ls : List (Option Value)) (st : List Value) (w : kg_W) (M : kg_M) : Prop := match o with
  | some (nx, t, a, b, c, l) => kg_exs G NX call ret t a b c l nx k ls st w M
  | none => False
/-- so many rows on, then the leaf -/
def kg_run (G : kg_G) (NX : Nat) (call : kg_Ct) (ret : kg_Qt) (cd : kg_Cd) (V : kg_K) : Nat → kg_K
  | 0 => V
  | f + 1 => fun pc ls st w M => kg_exo G NX call ret (kg_lk cd pc) (kg_run G NX call ret cd V f) ls st w M
theorem kg_sw_of {l : List (Nat × Nat)} {d : Nat} {x : Int32} {K : Nat → Prop} (h : kg_sw l d x K) : (∃ (i z t : Nat), l[i]? = some (z, t) ∧ x = nI z ∧ K t) ∨ ((∀ q ∈ l, ¬ x = nI q.1) ∧ K d) := by
  induction l with
  | nil => exact Or.inr ⟨fun q hq => (by cases hq), h⟩
  | cons q l ih =>
    obtain ⟨z, t⟩ := q
    obtain ⟨h1, h2⟩ := h
    by_cases hx : x = nI z
    · exact Or.inl ⟨0, z, t, rfl, hx, h1 hx⟩
    · rcases ih (h2 hx) with ⟨i, z', t', a1, a2, a3⟩ | ⟨a1, a2⟩
      · exact Or.inl ⟨i + 1, z', t', by simpa using a1, a2, a3⟩
      · refine Or.inr ⟨fun q hq => ?_, a2⟩
        rcases List.mem_cons.mp hq with rfl | hq
        · exact hx
        · exact a1 q hq
theorem kg_args_of {K : List Value → List Value → Prop} : ∀ {n : Nat} {st acc : List Value}, kg_args n st acc K → ∃ u r, u.length = n ∧ st = u ++ r ∧ K (u.reverse ++ acc) r
  | 0, st, acc, h => ⟨[], st, rfl, rfl, h⟩
  | n + 1, [], acc, h => False.elim h
  | n + 1, v :: st, acc, h => by
    obtain ⟨u, r, h1, h2, h3⟩ := kg_args_of (n := n) h
    exact ⟨v :: u, r, by simp [h1], by simp [h2], by simpa using h3⟩
theorem kg_toInt_nI {x : Int32} {z : Nat} (hz : z < 2 ^ 31) : x = nI z ↔ (z : Int) = x.toInt := by
  constructor
  · rintro rfl
    exact (nI_toInt hz).symm
  · intro h
    rw [← Int32.toInt_inj, nI_toInt hz]
    exact h.symm
theorem kg_sw_look {pc d : Nat} {x : Int32} {K : Nat → Prop} : ∀ {l : List (Nat × Nat)}, (∀ q ∈ l, q.1 < 2 ^ 31) → kg_sw l d x K → ∃ t : Nat, K t ∧ Op.lookupswitch.offset (l.map (fun q => ((q.1 : Int), (q.2 : Int) - pc))) ((d : Int) - pc) x.toInt = (t : Int) - pc
  | [], _, h => ⟨d, h, rfl⟩
  | (z, t) :: l, hl, ⟨h1, h2⟩ => by
    have hz := hl (z, t) List.mem_cons_self
    simp only [List.map_cons, Op.lookupswitch.offset_cons]
    by_cases hx : x = nI z
    · exact ⟨t, h1 hx, by rw [if_pos ((kg_toInt_nI hz).mp hx)]⟩
    · obtain ⟨t', a1, a2⟩ := kg_sw_look (pc := pc) (fun q hq => hl q (List.mem_cons_of_mem _ hq)) (h2 hx)
      exact ⟨t', a1, by rw [if_neg (fun e => hx ((kg_toInt_nI hz).mpr e))]; exact a2⟩
theorem kg_sw_tab {pc d a : Nat} {x : Int32} {K : Nat → Prop} {l : List (Nat × Nat)} (h1 : l.length < 2 ^ 30) (h2 : a < 2 ^ 30) (h3 : l.map (fun q => q.1) = (List.range l.length).map (fun i => a + i)) (h : kg_sw l d x K) :
    (∃ t : Nat, K t ∧ ¬ x.toInt < a ∧ ¬ (a : Int) + l.length - 1 < x.toInt ∧ (l.map (fun q => (q.2 : Int) - pc)).toArray[(x.toInt - a).toNat]? = some ((t : Int) - pc)) ∨ ((x.toInt < a ∨ (a : Int) + l.length - 1 < x.toInt) ∧ K d) := by
  have key : ∀ (i z t : Nat), l[i]? = some (z, t) → i < l.length ∧ z = a + i := by
    intro i z t hi
    have hl := (List.getElem?_eq_some_iff.mp hi).1
    have e : (l.map (fun q => q.1))[i]? = some z := by rw [List.getElem?_map, hi]; rfl
    rw [h3, List.getElem?_map, List.getElem?_range hl] at e
    exact ⟨hl, (Option.some.inj e).symm⟩
  rcases kg_sw_of h with ⟨i, z, t, a1, a2, a3⟩ | ⟨a1, a2⟩
  · obtain ⟨hl, rfl⟩ := key i z t a1
    have hx : x.toInt = ((a + i : Nat) : Int) := ((kg_toInt_nI (by omega)).mp a2).symm
    refine Or.inl ⟨t, a3, by omega, by omega, ?_⟩
    rw [show (x.toInt - a).toNat = i by omega, List.getElem?_toArray, List.getElem?_map, a1]
    rfl
  · refine Or.inr ⟨?_, a2⟩
    by_cases g : x.toInt < a
    · exact Or.inl g
    · right
      by_cases g2 : (a : Int) + l.length - 1 < x.toInt
      · exact g2
      · exfalso
        have hi : (x.toInt - a).toNat < l.length := by omega
        obtain ⟨⟨z, t⟩, e⟩ : ∃ q : Nat × Nat, l[(x.toInt - a).toNat]? = some q := ⟨_, List.getElem?_eq_getElem hi⟩
        obtain ⟨-, hz⟩ := key _ z t e
        refine a1 (z, t) (List.mem_of_getElem? e) ((kg_toInt_nI (by omega)).mpr ?_)
        show (z : Int) = x.toInt
        omega
section
variable {G : kg_G} {X : kg_Xt} {o : Nat} {cc : ByteArray} {nL d : Nat} {ini : Bool} {N0 NX : Nat} {pc : Nat} {ls : List (Option Value)} {st : List Value} {w : kg_W} {M : kg_M}
theorem kg_r_tsw (hB : kg_B G X (kg_cn o) cc nL d ini N0 NX) {x : Int32} {a b c : Nat} {l : List (Nat × Nat)} (h1 : l.length < 2 ^ 30) (h2 : a < 2 ^ 30) (h3 : l.map (fun q => q.1) = (List.range l.length).map (fun i => a + i)) (hd : decode cc pc = .ok (.tableswitch ((b : Int) - pc) a ((a : Int) + l.length - 1) (l.map (fun q => (q.2 : Int) - pc)).toArray, c)) (h : kg_sw l b x (fun t => kg_V G X nL N0 NX t ls st w M)) : kg_V G X nL N0 NX pc ls (.int x :: st) w M := by
  intro g1 g2 p' e R s m args below meth c' Qf hX H locs A hH hS hl
  obtain ⟨hx, hb, -⟩ := hB _ _ _ _ _ _ _ _ _ _ hX
  rcases kg_sw_tab (pc := pc) h1 h2 h3 h with ⟨t, k, a1, a2, a3⟩ | ⟨a1, k⟩
  · exact lv_tableIn hx hb hd a1 a2 a3 (by omega) (k g1 g2 p' e R s m args below meth c' Qf hX H locs A hH hS hl)
  · exact lv_tableOut hx hb hd a1 (by omega) (k g1 g2 p' e R s m args below meth c' Qf hX H locs A hH hS hl)
theorem kg_r_lsw (hB : kg_B G X (kg_cn o) cc nL d ini N0 NX) {x : Int32} {b c : Nat} {l : List (Nat × Nat)} (h1 : ∀ q ∈ l, q.1 < 2 ^ 31) (h2 : ((l.map (fun q => ((q.1 : Int), (q.2 : Int) - pc))).toArray.toList.zip ((l.map (fun q => ((q.1 : Int), (q.2 : Int) - pc))).toArray.toList.drop 1)).all (fun (a, next) => a.1 < next.1) = true) (hd : decode cc pc = .ok (.lookupswitch ((b : Int) - pc) (l.map (fun q => ((q.1 : Int), (q.2 : Int) - pc))).toArray, c)) (h : kg_sw l b x (fun t => kg_V G X nL N0 NX t ls st w M)) : kg_V G X nL N0 NX pc ls (.int x :: st) w M := by
  intro g1 g2 p' e R s m args below meth c' Qf hX H locs A hH hS hl
  obtain ⟨hx, hb, -⟩ := hB _ _ _ _ _ _ _ _ _ _ hX
  obtain ⟨t, k, ho⟩ := kg_sw_look (pc := pc) h1 h
  exact lv_lookup hx hb hd h2 ho (by omega) (k g1 g2 p' e R s m args below meth c' Qf hX H locs A hH hS hl)
end
end
section
/-! SOUNDNESS of one row, and of a run -/
theorem kg_ca {G : kg_G} {w : kg_W} {M : kg_M} {n : Nat} {i : Int32} {K : Nat → Prop} (h : kg_at n i K) : ∃ j, j < n ∧ i = nI j ∧ K j := h
theorem kg_kdn (p : Nat) : (kg_kd p).2 < 2 ^ 31 := by
  have hs : ∀ r, (kg_sb r).2 < 2 ^ 31 := by
    intro r
    unfold kg_sb
    split <;> decide
  unfold kg_kd
  split
  · decide
  · split
    · exact hs _
    · split
      · decide
      · split
        · exact hs _
        · split <;> decide
theorem kg_kd_eta {p t : Nat} (h : (kg_kd p).1 = t) : kg_kd p = (t, (kg_kd p).2) := by rw [← h]
theorem kg_fll_of {o c a b : Nat} (h : (o, c, a, b) ∈ kg_fll) : a < 7 ∧ b < kg_nf a ∧ Cond.fieldLink (kg_cn o) c (kg_F a b).1 (kg_F a b).2.1 (kg_F a b).2.2.1 ∈ kg_T := by
  obtain ⟨⟨o8, i8, m8, k8, p1⟩, h8, e8⟩ := List.mem_map.mp h
  simp only [Prod.mk.injEq] at e8
  obtain ⟨rfl, rfl, rfl, rfl⟩ := e8
  have ok := List.all_eq_true.mp kg_fl5_ok _ h8
  simp only [kg_flo, Bool.and_eq_true, decide_eq_true_eq] at ok
  exact ⟨ok.1.1, ok.1.2, kg_wp_of ok.2⟩
theorem kg_cll_of {o c a : Nat} (h : (o, c, a) ∈ kg_cll) : a < 7 ∧ Cond.classLink (kg_cn o) c (kg_C a) ∈ kg_T ∧ Cond.instantiable (kg_C a) (kg_nf a) ∈ kg_T ∧ Cond.initialized (kg_C a) ∈ kg_T ∧ ∀ k, k < kg_nf a → defaultValue (kg_ft a k) = if kg_fr a k = true then .null else .int 0 := by
  have ok := List.all_eq_true.mp kg_cll_ok _ h
  simp only [Bool.and_eq_true, decide_eq_true_eq] at ok
  refine ⟨ok.1.1.1.1, kg_w1_of ok.1.1.1.2, kg_w1_of ok.1.1.2, kg_w1_of ok.1.2, fun k hk => ?_⟩
  have := List.all_eq_true.mp ok.2 k (List.mem_range.mpr hk)
  simpa using this
section
variable {G : kg_G} {X : kg_Xt} {o : Nat} {cc : ByteArray} {nL d : Nat} {ini : Bool} {N0 NX : Nat}
set_option maxHeartbeats 4000000 in
set_option maxRecDepth 10000 in
theorem kg_step (hB : kg_B G X (kg_cn o) cc nL d ini N0 NX) (hd1 : 1 ≤ d) (hL : G.2.2.2.2.2.1 < 2 ^ 31) {ret : kg_Qt}
    (hri : ∀ pc ls x w M, decode cc pc = .ok (.ireturn, 1) → ret (some (.int x)) w M → kg_V G X nL N0 NX pc ls [.int x] w M)
    (hrv : ∀ pc ls w M, decode cc pc = .ok (.return_, 1) → ret none w M → kg_V G X nL N0 NX pc ls [] w M)
    {k : kg_K} (hk : ∀ pc ls st w M, k pc ls st w M → kg_V G X nL N0 NX pc ls st w M)
    {pc nx t a b c : Nat} {l : List (Nat × Nat)} {ls : List (Option Value)} {st : List Value} {w : kg_W} {M : kg_M}
    (hok : kg_okb o ini nL cc pc nx t a b c l = true) (hex : kg_exs G NX (kg_call G d NX) ret t a b c l nx k ls st w M) : kg_V G X nL N0 NX pc ls st w M := by
  have kont : ∀ (nx : Nat) (r : List Value) (v : Option Value) (w' : kg_W) (M' : kg_M), nx = pc + 3 → kg_kont k nx ls r v w' M' → kg_V G X nL N0 NX (pc + 3) ls (v.toList ++ r) w' M' := fun nx r v w' M' e h => by subst e; exact hk _ _ _ _ _ h
  match t, hok, hex with
  | 0, hok, hex =>
    have h := of_decide_eq_true hok
    rcases h with ⟨h1, h2, h3⟩ | ⟨h1, h2, h3⟩ | ⟨h1, h2, h3⟩ | ⟨h1, h2, h3⟩
    · exact kg_r_const hB (Or.inl ⟨h1, h2, h3⟩) (hk _ _ _ _ _ hex)
    · exact kg_r_const hB (Or.inr (Or.inl ⟨h1, h2, h3⟩)) (hk _ _ _ _ _ hex)
    · exact kg_r_const hB (Or.inr (Or.inr ⟨h1, h2, h3⟩)) (hk _ _ _ _ _ hex)
    · subst h1
      exact kg_r_ldc hB h2 (kg_w1_of (List.all_eq_true.mp kg_ctl_ok _ h3)) (hk _ _ _ _ _ hex)
  | 1, hok, hex =>
    have h := of_decide_eq_true hok
    rcases h with ⟨h1, h2, h3⟩ | ⟨h1, h2, h3⟩
    · exact kg_r_const hB (Or.inl ⟨h1, h2, h3⟩) (hk _ _ _ _ _ hex)
    · exact kg_r_const hB (Or.inr (Or.inl ⟨h1, h2, h3⟩)) (hk _ _ _ _ _ hex)
  | 2, hok, hex =>
    obtain ⟨ha, h⟩ := of_decide_eq_true hok
    match hv : kg_lg ls a, (show kg_vi (kg_lg ls a) _ from hex) with
    | some (.int x), hex =>
      refine kg_r_iload hB ha ?_ hv (hk _ _ _ _ _ hex)
      rcases h with ⟨h1, h2, h3⟩ | ⟨h1, h2⟩
      · exact Or.inl ⟨h1, _, by simp [Fin.ofNat, Nat.mod_eq_of_lt h2], h3⟩
      · exact Or.inr ⟨h1, h2⟩
  | 3, hok, hex =>
    obtain ⟨ha, h⟩ := of_decide_eq_true hok
    match hv : kg_lg ls a, (show kg_vr (kg_lg ls a) _ from hex) with
    | some (.ref x), hex =>
      refine kg_r_aload hB ha ?_ hv (hk _ _ _ _ _ hex)
      rcases h with ⟨h1, h2, h3⟩ | ⟨h1, h2⟩
      · exact Or.inl ⟨h1, _, by simp [Fin.ofNat, Nat.mod_eq_of_lt h2], h3⟩
      · exact Or.inr ⟨h1, h2⟩
  | 4, hok, hex =>
    obtain ⟨ha, h⟩ := of_decide_eq_true hok
    match st, (show kg_1i st _ from hex) with
    | .int x :: r, hex =>
      refine kg_r_istore hB ha ?_ (hk _ _ _ _ _ hex)
      rcases h with ⟨h1, h2, h3⟩ | ⟨h1, h2⟩
      · exact Or.inl ⟨h1, _, by simp [Fin.ofNat, Nat.mod_eq_of_lt h2], h3⟩
      · exact Or.inr ⟨h1, h2⟩
  | 5, hok, hex =>
    obtain ⟨ha, h⟩ := of_decide_eq_true hok
    match st, (show kg_1r st _ from hex) with
    | .ref x :: r, hex =>
      refine kg_r_astore hB ha ?_ (hk _ _ _ _ _ hex)
      rcases h with ⟨h1, h2, h3⟩ | ⟨h1, h2⟩
      · exact Or.inl ⟨h1, _, by simp [Fin.ofNat, Nat.mod_eq_of_lt h2], h3⟩
      · exact Or.inr ⟨h1, h2⟩
  | 6, hok, hex =>
    obtain ⟨ha, h1, h2, h3⟩ := of_decide_eq_true hok
    subst h1
    match hv : kg_lg ls a, (show kg_vi (kg_lg ls a) _ from hex) with
    | some (.int x), hex =>
      exact kg_r_iinc hB ha h2 hv h3 (hk _ _ _ _ _ hex)
  | 7, hok, hex =>
    obtain ⟨h1, h2⟩ := of_decide_eq_true hok
    subst h1
    match st, (show kg_2i st _ from hex) with
    | .int y :: .int x :: r, hex => exact kg_r_iadd hB h2 (hk _ _ _ _ _ hex)
  | 8, hok, hex =>
    obtain ⟨h1, h2⟩ := of_decide_eq_true hok
    subst h1
    match st, (show kg_2i st _ from hex) with
    | .int y :: .int x :: r, hex => exact kg_r_isub hB h2 (hk _ _ _ _ _ hex)
  | 9, hok, hex =>
    obtain ⟨h1, h2⟩ := of_decide_eq_true hok
    subst h1
    match st, (show kg_2i st _ from hex) with
    | .int y :: .int x :: r, hex => exact kg_r_imul hB h2 (hk _ _ _ _ _ hex)
  | 10, hok, hex =>
    obtain ⟨h1, h2⟩ := of_decide_eq_true hok
    subst h1
    match st, (show kg_2i st _ from hex) with
    | .int y :: .int x :: r, hex => exact kg_r_irem hB h2 hex.1 (hk _ _ _ _ _ hex.2)
  | 11, hok, hex =>
    obtain ⟨h1, h2⟩ := of_decide_eq_true hok
    subst h1
    match st, (show kg_2i st _ from hex) with
    | .int y :: .int x :: r, hex => exact kg_r_iand hB h2 (hk _ _ _ _ _ hex)
  | 12, hok, hex =>
    obtain ⟨h1, h2⟩ := of_decide_eq_true hok
    subst h1
    match st, (show kg_1i st _ from hex) with
    | .int x :: r, hex => exact kg_r_i2c hB h2 (hk _ _ _ _ _ hex)
  | 13, hok, hex =>
    obtain ⟨h1, h2⟩ := of_decide_eq_true hok
    subst h1
    match st, hex with
    | v :: r, hex => exact kg_r_dup hB h2 (hk _ _ _ _ _ hex)
  | 14, hok, hex =>
    obtain ⟨h1, h2⟩ := of_decide_eq_true hok
    subst h1
    match st, hex with
    | v :: u :: r, hex => exact kg_r_dup2 hB h2 (hk _ _ _ _ _ hex)
  | 15, hok, hex =>
    obtain ⟨h1, h2⟩ := of_decide_eq_true hok
    subst h1
    match st, hex with
    | v :: r, hex => exact kg_r_pop hB h2 (hk _ _ _ _ _ hex)
  | 16, hok, hex =>
    obtain ⟨h1, h2⟩ := of_decide_eq_true hok
    subst h1
    match st, (show kg_1i st _ from hex) with
    | .int x :: r, hex =>
      exact kg_r_if hB h2 (by omega) (fun h => hk _ _ _ _ _ (hex.1 h)) (fun h => hk _ _ _ _ _ (hex.2 h))
  | 17, hok, hex =>
    obtain ⟨h1, h2⟩ := of_decide_eq_true hok
    subst h1
    match st, (show kg_2i st _ from hex) with
    | .int y :: .int x :: r, hex =>
      exact kg_r_icmp hB h2 (by omega) (fun h => hk _ _ _ _ _ (hex.1 h)) (fun h => hk _ _ _ _ _ (hex.2 h))
  | 18, hok, hex =>
    have h2 := of_decide_eq_true hok
    exact kg_r_goto hB h2 (by omega) (hk _ _ _ _ _ hex)
  | 19, hok, hex =>
    obtain ⟨h1, h2, h3, h4⟩ := of_decide_eq_true hok
    match st, (show kg_1i st _ from hex) with
    | .int x :: r, hex =>
      refine kg_r_tsw hB h1 h2 h3 h4 ?_
      have : ∀ {l : List (Nat × Nat)}, kg_sw l b x (fun t => k t ls r w M) → kg_sw l b x (fun t => kg_V G X nL N0 NX t ls r w M) := by
        intro l
        induction l with
        | nil => exact fun h => hk _ _ _ _ _ h
        | cons q l ih => exact fun h => ⟨fun e => hk _ _ _ _ _ (h.1 e), fun e => ih (h.2 e)⟩
      exact this hex
  | 20, hok, hex =>
    obtain ⟨h1, h2, h3⟩ := of_decide_eq_true hok
    match st, (show kg_1i st _ from hex) with
    | .int x :: r, hex =>
      refine kg_r_lsw hB (fun q hq => by simpa using List.all_eq_true.mp h1 q hq) h2 h3 ?_
      have : ∀ {l : List (Nat × Nat)}, kg_sw l b x (fun t => k t ls r w M) → kg_sw l b x (fun t => kg_V G X nL N0 NX t ls r w M) := by
        intro l
        induction l with
        | nil => exact fun h => hk _ _ _ _ _ h
        | cons q l ih => exact fun h => ⟨fun e => hk _ _ _ _ _ (h.1 e), fun e => ih (h.2 e)⟩
      exact this hex
  | 21, hok, hex =>
    obtain ⟨h1, h2, h3, h4⟩ := of_decide_eq_true hok
    subst h1
    have hf := kg_fll_of h2
    match st, (show kg_1r st _ from hex) with
    | .ref p :: r, ⟨g1, g2, g3, g4⟩ => exact kg_r_geti hB g2 g1 hf.1 hf.2.1 g3 h3 hf.2.2 h4 (hk _ _ _ _ _ g4)
  | 22, hok, hex =>
    obtain ⟨h1, h2, h3, h4⟩ := of_decide_eq_true hok
    subst h1
    have hf := kg_fll_of h2
    match st, (show kg_1r st _ from hex) with
    | .ref p :: r, ⟨g1, g2, g3, g4, g5, g6⟩ => exact kg_r_getr hB g2 g1 hf.1 hf.2.1 g3 h3 hf.2.2 rfl g4 g5 h4 (hk _ _ _ _ _ g6)
  | 23, hok, hex =>
    obtain ⟨h1, h2, h3, h5, h6, h4⟩ := of_decide_eq_true hok
    subst h1
    have hf := kg_fll_of h2
    match st, hex with
    | .int x :: .ref p :: r, ⟨g1, g2, g3, g4⟩ => exact kg_r_puti hB g2 g1 hf.1 hf.2.1 g3 h3 hf.2.2 h6 h4 (Or.inl h5) (hk _ _ _ _ _ g4)
  | 24, hok, hex =>
    obtain ⟨h1, h2, h3, h5, h6, h4⟩ := of_decide_eq_true hok
    subst h1
    have hf := kg_fll_of h2
    match st, hex with
    | .int x :: .ref p :: r, ⟨g1, g2, g3, g4, g5⟩ => exact kg_r_puti hB g2 g1 hf.1 hf.2.1 g3 h3 hf.2.2 h6 h4 (Or.inr ⟨h5, g4⟩) (hk _ _ _ _ _ g5)
  | 25, hok, hex =>
    obtain ⟨h1, h2, h3, h5, h6, h4⟩ := of_decide_eq_true hok
    subst h1
    have hf := kg_fll_of h2
    match st, hex with
    | .ref q :: .ref p :: r, ⟨g1, g2, g3, g4, g6, g5⟩ =>
      refine kg_r_putr hB g2 g1 hf.1 hf.2.1 g3 h3 hf.2.2 h6 g4 g6 h4 ?_ (hk _ _ _ _ _ g5)
      cases hft : kg_ft a b with
      | array t => exact Or.inl ⟨t, rfl⟩
      | object t => exact Or.inr ⟨t, rfl⟩
      | _ => rw [hft] at h5; cases h5
  | 26, hok, hex =>
    obtain ⟨h1, h2, h3, h4⟩ := of_decide_eq_true hok
    subst h1
    refine kg_r_gets hB h2 ?_ h4 (hk _ _ _ _ _ hex)
    rcases h3 with h3 | ⟨rfl, rfl, rfl⟩
    · have ok := List.all_eq_true.mp kg_sfl_ok _ h3
      simp only [Bool.and_eq_true] at ok
      exact Or.inl (kg_w1_of ok.2)
    · exact Or.inr ⟨rfl, rfl, rfl⟩
  | 27, hok, hex =>
    obtain ⟨h1, h2⟩ := of_decide_eq_true hok
    subst h1
    match st, (show kg_ir st _ from hex) with
    | .int i :: .ref p :: r, ⟨g1, g2, g3⟩ =>
      rcases Nat.lt_trichotomy p 1000 with hp | hp | hp
      · obtain ⟨e1, e2, j, e3, rfl, e4⟩ := g3 hp
        exact kg_r_iald hB hp e1 (kg_kd_eta e2) e3 (kg_kdn p) h2 (hk _ _ _ _ _ e4)
      · obtain ⟨j, e3, rfl, e4⟩ := g1 hp
        subst hp
        exact kg_r_ildx hB e3 hL h2 (hk _ _ _ _ _ e4)
      · obtain ⟨e1, j, e3, rfl, e4⟩ := g2 hp
        exact kg_r_ilds hB (by simp; omega) e3 h2 (hk _ _ _ _ _ e4)
  | 28, hok, hex =>
    obtain ⟨h1, h2⟩ := of_decide_eq_true hok
    subst h1
    match st, (show kg_ir st _ from hex) with
    | .int i :: .ref p :: r, hex =>
      obtain ⟨g1, g2, g3, j, e3, rfl, e4⟩ := hex
      exact kg_r_zald hB g2 g1 (kg_kd_eta g3) e3 (kg_kdn p) h2 (hk _ _ _ _ _ e4)
  | 29, hok, hex =>
    obtain ⟨h1, h2⟩ := of_decide_eq_true hok
    subst h1
    match st, (show kg_ir st _ from hex) with
    | .int i :: .ref p :: r, hex =>
      obtain ⟨g1, g2, g3, j, e3, rfl, e4⟩ := hex
      exact kg_r_cald hB g2 g1 (kg_kd_eta g3) e3 (kg_kdn p) h2 (hk _ _ _ _ _ e4)
  | 30, hok, hex =>
    obtain ⟨h1, h2⟩ := of_decide_eq_true hok
    subst h1
    match st, (show kg_ir st _ from hex) with
    | .int i :: .ref p :: r, hex =>
      obtain ⟨g1, g2, g3, j, e3, rfl, e4, e5, e6⟩ := hex
      exact kg_r_aald hB g2 g1 (kg_kd_eta g3) e3 (kg_kdn p) rfl e4 e5 h2 (hk _ _ _ _ _ e6)
  | 31, hok, hex =>
    obtain ⟨h1, h2⟩ := of_decide_eq_true hok
    subst h1
    match st, (show kg_iir st _ from hex) with
    | .int x :: .int i :: .ref p :: r, hex =>
      obtain ⟨g1, g2, g3, j, e3, rfl, e4⟩ := hex
      exact kg_r_iast hB g2 g1 (kg_kd_eta g3) e3 (kg_kdn p) h2 (hk _ _ _ _ _ e4)
  | 32, hok, hex =>
    obtain ⟨h1, h2⟩ := of_decide_eq_true hok
    subst h1
    match st, (show kg_iir st _ from hex) with
    | .int x :: .int i :: .ref p :: r, hex =>
      obtain ⟨g1, g2, g3, g4, j, e3, rfl, e4⟩ := hex
      exact kg_r_zast hB g2 g1 (kg_kd_eta g3) e3 (kg_kdn p) g4 h2 (hk _ _ _ _ _ e4)
  | 33, hok, hex =>
    obtain ⟨h1, h2⟩ := of_decide_eq_true hok
    subst h1
    match st, (show kg_iir st _ from hex) with
    | .int x :: .int i :: .ref p :: r, hex =>
      obtain ⟨g1, g2, g3, z, e1, rfl, j, e3, rfl, e4⟩ := hex
      exact kg_r_cast hB g2 g1 (kg_kd_eta g3) e3 (kg_kdn p) e1 h2 (hk _ _ _ _ _ e4)
  | 34, hok, hex =>
    obtain ⟨h1, h2⟩ := of_decide_eq_true hok
    subst h1
    match st, hex with
    | .ref q :: .int i :: .ref p :: r, hex =>
      obtain ⟨g1, g2, g3, g4, g5, g6, g7, j, e3, rfl, e4⟩ := hex
      exact kg_r_aast hB g2 g1 (kg_kd_eta g3) e3 (kg_kdn p) g4 g5 g6 g7 h2 (hk _ _ _ _ _ e4)
  | 35, hok, hex =>
    obtain ⟨h1, h2⟩ := of_decide_eq_true hok
    subst h1
    match st, hex with
    | .ref p :: r, hex =>
      obtain ⟨rfl, e4⟩ := hex
      exact kg_r_slen hB h2 (hk _ _ _ _ _ e4)
  | 36, hok, hex =>
    obtain ⟨h1, h2, h3⟩ := of_decide_eq_true hok
    subst h1
    have hc := kg_cll_of h2
    obtain ⟨g1, g2, g3, g4⟩ := hex
    exact kg_r_new hB g1 g2 hc.1 g3 hc.2.1 hc.2.2.1 hc.2.2.2.1 hc.2.2.2.2 h3 (hk _ _ _ _ _ g4)
  | 37, hok, hex =>
    obtain ⟨h1, h2⟩ := of_decide_eq_true hok
    subst h1
    match st, (show kg_1i st _ from hex) with
    | .int n :: r, hex =>
      obtain ⟨g1, g2, g3, rfl, g4⟩ := hex
      have hz : (kg_kd w.1).2 < 2 ^ 20 := by
        have : ∀ p, p < 129 → (kg_kd p).2 < 2 ^ 20 := by decide +kernel
        exact this _ g1
      rcases h2 with ⟨rfl, h2⟩ | ⟨rfl, h2⟩ | ⟨rfl, h2⟩
      · exact kg_r_newa hB g1 g2 (kg_kd_eta g3) (by omega) (aty := .int) (ty := .int) rfl rfl (fun _ _ h => h) rfl hz (by decide) kg_k_arr.1 h2 (hk _ _ _ _ _ g4)
      · exact kg_r_newa hB g1 g2 (kg_kd_eta g3) (by omega) (aty := .boolean) (ty := .boolean) rfl rfl (fun _ _ h => h) rfl hz (by decide) kg_k_arr.2.1 h2 (hk _ _ _ _ _ g4)
      · exact kg_r_newa hB g1 g2 (kg_kd_eta g3) (by omega) (aty := .char) (ty := .char) rfl rfl (fun _ _ h => h) rfl hz (by decide) kg_k_arr.2.2 h2 (hk _ _ _ _ _ g4)
  | 38, hok, hex =>
    obtain ⟨h1, h2, h3⟩ := of_decide_eq_true hok
    subst h1
    have hc := kg_cll_of h2
    match st, (show kg_1i st _ from hex) with
    | .int n :: r, hex =>
      obtain ⟨g1, g2, g3, rfl, g4⟩ := hex
      have hz : (kg_kd w.1).2 < 2 ^ 20 := by
        have : ∀ p, p < 129 → (kg_kd p).2 < 2 ^ 20 := by decide +kernel
        exact this _ g1
      exact kg_r_anew hB g1 g2 (kg_kd_eta g3) hz hc.2.1 h3 (hk _ _ _ _ _ g4)
  | 39, hok, hex =>
    obtain ⟨h1, h2, h3, h4⟩ := of_decide_eq_true hok
    obtain ⟨u, r, e1, rfl, e3⟩ := kg_args_of (show kg_args b st [] _ from hex)
    rw [List.append_nil] at e3
    match hu : u.reverse, e3 with
    | .ref p :: as, ⟨g1, g2, g3, g4, g5⟩ =>
      have hu2 : u = as.reverse ++ [.ref p] := by
        have := congrArg List.reverse hu
        simpa using this
      have hlen : as.length = b - 1 := by
        rw [hu2] at e1
        simp at e1
        omega
      rw [hu2, List.append_assoc]
      exact kg_c_virt hB rfl h2 h3 hlen g3 g2 g4 g1 h4 g5 (fun v w' M' h => kont nx r v w' M' h1 h)
  | 40, hok, hex =>
    obtain ⟨h1, h2, h3, h4⟩ := of_decide_eq_true hok
    obtain ⟨u, r, e1, rfl, g1, g2⟩ := kg_args_of (show kg_args b st [] _ from hex)
    rw [List.append_nil] at g2
    have h9 := kg_c_stat (as := u.reverse) hB rfl h2 h3 (by simpa using e1) g1 h4 g2 (fun v w' M' h => kont nx r v w' M' h1 h)
    rw [List.reverse_reverse] at h9
    exact h9
  | 41, hok, hex =>
    obtain ⟨h1, h2, h3, h4⟩ := of_decide_eq_true hok
    obtain ⟨u, r, e1, rfl, g1, g2⟩ := kg_args_of (show kg_args b st [] _ from hex)
    rw [List.append_nil] at g2
    have h9 := kg_c_statN (as := u.reverse) hB rfl h2 h3 (by simpa using e1) g1 h4 g2 (fun v w' M' h => kont nx r v w' M' h1 h)
    rw [List.reverse_reverse] at h9
    exact h9
  | 42, hok, hex =>
    obtain ⟨h1, h2, h3, h4⟩ := of_decide_eq_true hok
    match st, (show kg_1r st _ from hex) with
    | .ref p :: r, ⟨g1, g2, g3⟩ => exact kg_c_init hB rfl h2 h3 g1 g2 h4 g3 (fun v w' M' h => kont nx r v w' M' h1 h)
  | 43, hok, hex =>
    obtain ⟨h1, h2, h3, h4⟩ := of_decide_eq_true hok
    match st, (show kg_1r st _ from hex) with
    | .ref p :: r, ⟨g1, g2, g3⟩ => exact kg_c_initN hB rfl h2 h3 g1 g2 h4 g3 (fun v w' M' h => kont nx r v w' M' h1 h)
  | 44, hok, hex =>
    obtain ⟨h1, h2, h3⟩ := of_decide_eq_true hok
    subst h1
    match st, (show kg_1r st _ from hex) with
    | .ref p :: r, ⟨g1, g2⟩ => exact kg_r_obj hB hd1 g1 (kg_w1_of (List.all_eq_true.mp kg_obl_ok _ h2)) kg_k_obj kg_k_objc h3 (hk _ _ _ _ _ g2)
  | 45, hok, hex =>
    obtain ⟨h1, h2, h3⟩ := of_decide_eq_true hok
    subst h1
    match st, (show kg_2i st _ from hex) with
    | .int y :: .int x :: r, ⟨g1, g2⟩ => exact kg_r_mmin hB hd1 g1 (kg_w1_of (List.all_eq_true.mp kg_mnl_ok _ h2)) kg_k_mins kg_k_mi kg_k_min h3 (hk _ _ _ _ _ g2)
  | 46, hok, hex =>
    obtain ⟨h1, h2, h3⟩ := of_decide_eq_true hok
    subst h1
    match st, (show kg_2i st _ from hex) with
    | .int y :: .int x :: r, ⟨g1, g2⟩ => exact kg_r_mmax hB hd1 g1 (kg_w1_of (List.all_eq_true.mp kg_mxl_ok _ h2)) kg_k_maxs kg_k_mi kg_k_max h3 (hk _ _ _ _ _ g2)
  | 47, hok, hex =>
    obtain ⟨h1, h2, h3⟩ := of_decide_eq_true hok
    subst h1
    match st, hex with
    | .int n :: .int z2 :: .ref q :: .int z1 :: .ref p :: r, hex =>
      obtain ⟨g1, g2, rfl, rfl, g3, g4, g5, g6, g7, g8, j, g9, rfl, g10, g11, g12⟩ := hex
      exact kg_r_copy hB g2 hd1 g1 (kg_w1_of (List.all_eq_true.mp kg_acl_ok _ h2)) kg_k_ac.1 kg_k_ac.2.1 kg_k_ac.2.2 g4 g3 (kg_kd_eta g7) g6 g5 (kg_kd_eta g8) g10 g11 g9 h3 (hk _ _ _ _ _ g12)
  | 48, hok, hex =>
    have h2 := of_decide_eq_true hok
    match st, hex with
    | [.int x], hex => exact hri _ _ _ _ _ h2 hex
  | 49, hok, hex =>
    have h2 := of_decide_eq_true hok
    match st, hex with
    | [], hex => exact hrv _ _ _ _ h2 hex
def kg_okc (o : Nat) (ini : Bool) (nL : Nat) (cc : ByteArray) (cd : kg_Cd) : Bool := cd.all (fun q => kg_okb o ini nL cc q.1 q.2.1 q.2.2.1 q.2.2.2.1 q.2.2.2.2.1 q.2.2.2.2.2.1 q.2.2.2.2.2.2)
theorem kg_lk_in : ∀ {cd : kg_Cd} {pc : Nat} {q : Nat × kg_Op}, kg_lk cd pc = some q → (pc, q) ∈ cd
  | [], _, _, h => by simp [kg_lk] at h
  | (p, r) :: l, pc, q, h => by
    unfold kg_lk at h
    by_cases e : p = pc
    · rw [if_pos e] at h
      cases h
      subst e
      exact List.mem_cons_self
    · rw [if_neg e] at h
      exact List.mem_cons_of_mem _ (kg_lk_in h)
theorem kg_sound (hB : kg_B G X (kg_cn o) cc nL d ini N0 NX) (hd1 : 1 ≤ d) (hL : G.2.2.2.2.2.1 < 2 ^ 31) {ret : kg_Qt}
    (hri : ∀ pc ls x w M, decode cc pc = .ok (.ireturn, 1) → ret (some (.int x)) w M → kg_V G X nL N0 NX pc ls [.int x] w M)
    (hrv : ∀ pc ls w M, decode cc pc = .ok (.return_, 1) → ret none w M → kg_V G X nL N0 NX pc ls [] w M)
    {cd : kg_Cd} (hok : kg_okc o ini nL cc cd = true) (f : Nat) : ∀ {pc : Nat} {ls : List (Option Value)} {st : List Value} {w : kg_W} {M : kg_M},
    kg_run G NX (kg_call G d NX) ret cd (kg_V G X nL N0 NX) f pc ls st w M → kg_V G X nL N0 NX pc ls st w M := by
  induction f with
  | zero => exact fun h => h
  | succ f ih =>
    intro pc ls st w M h
    have h1 : kg_exo G NX (kg_call G d NX) ret (kg_lk cd pc) (kg_run G NX (kg_call G d NX) ret cd (kg_V G X nL N0 NX) f) ls st w M := h
    cases hl : kg_lk cd pc with
    | none => rw [hl] at h1; exact False.elim h1
    | some q =>
      obtain ⟨nx, t, a, b, c, l⟩ := q
      rw [hl] at h1
      exact kg_step hB hd1 hL hri hrv (fun _ _ _ _ _ h => ih h) (List.all_eq_true.mp hok _ (kg_lk_in hl)) h1
end
end
