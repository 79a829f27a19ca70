section
-- ===== PART A: goes FIRST, ahead of the names: the tables' words, and 'selects' of the private methods out of them =====
/-- a private method of a class that the tables say can be made, by its rows of tables_1 -/
def lw_okq (q : MethodName × Nat) : Prop := (q.1.cls ≠ "java/lang/invoke/MethodHandle" ∧ q.1.cls ≠ "java/lang/invoke/VarHandle") ∧ Cond.instantiable q.1.cls q.2 ∈ tables_1 ∧ Cond.privateMethod q.1 ∈ tables_1 ∧ Cond.instanceMethod q.1 ∈ tables_1
theorem lw_p0 : lw_okq (⟨"KeyGraves", "record", "()V"⟩, 6) := ⟨⟨by decide +kernel, by decide +kernel⟩, List.mem_of_getElem? (i := 11) (by decide +kernel), List.mem_of_getElem? (i := 202) (by decide +kernel), List.mem_of_getElem? (i := 203) (by decide +kernel)⟩
theorem lw_p1 : lw_okq (⟨"KeyGraves$State", "reach", "(II)V"⟩, 10) := ⟨⟨by decide +kernel, by decide +kernel⟩, List.mem_of_getElem? (i := 19) (by decide +kernel), List.mem_of_getElem? (i := 257) (by decide +kernel), List.mem_of_getElem? (i := 258) (by decide +kernel)⟩
theorem lw_p2 : lw_okq (⟨"KeyGraves$State", "stampOf", "(II)I"⟩, 10) := ⟨⟨by decide +kernel, by decide +kernel⟩, List.mem_of_getElem? (i := 19) (by decide +kernel), List.mem_of_getElem? (i := 273) (by decide +kernel), List.mem_of_getElem? (i := 274) (by decide +kernel)⟩
theorem lw_p3 : lw_okq (⟨"KeyGraves$State", "learn", "(III)V"⟩, 10) := ⟨⟨by decide +kernel, by decide +kernel⟩, List.mem_of_getElem? (i := 19) (by decide +kernel), List.mem_of_getElem? (i := 285) (by decide +kernel), List.mem_of_getElem? (i := 286) (by decide +kernel)⟩
theorem lw_p4 : lw_okq (⟨"KeyGraves$State", "logPair", "(III)V"⟩, 10) := ⟨⟨by decide +kernel, by decide +kernel⟩, List.mem_of_getElem? (i := 19) (by decide +kernel), List.mem_of_getElem? (i := 323) (by decide +kernel), List.mem_of_getElem? (i := 324) (by decide +kernel)⟩
theorem lw_p5 : lw_okq (⟨"KeyGraves$State", "isClearable", "(II)Z"⟩, 10) := ⟨⟨by decide +kernel, by decide +kernel⟩, List.mem_of_getElem? (i := 19) (by decide +kernel), List.mem_of_getElem? (i := 350) (by decide +kernel), List.mem_of_getElem? (i := 351) (by decide +kernel)⟩
theorem lw_p6 : lw_okq (⟨"KeyGraves$State", "ticksSince", "(II)I"⟩, 10) := ⟨⟨by decide +kernel, by decide +kernel⟩, List.mem_of_getElem? (i := 19) (by decide +kernel), List.mem_of_getElem? (i := 358) (by decide +kernel), List.mem_of_getElem? (i := 359) (by decide +kernel)⟩
theorem lw_p7 : lw_okq (⟨"KeyGraves$State", "isRepairedSince", "(II)Z"⟩, 10) := ⟨⟨by decide +kernel, by decide +kernel⟩, List.mem_of_getElem? (i := 19) (by decide +kernel), List.mem_of_getElem? (i := 362) (by decide +kernel), List.mem_of_getElem? (i := 363) (by decide +kernel)⟩
theorem lw_p8 : lw_okq (⟨"KeyGraves$State", "isUnsettledGrave", "(II)Z"⟩, 10) := ⟨⟨by decide +kernel, by decide +kernel⟩, List.mem_of_getElem? (i := 19) (by decide +kernel), List.mem_of_getElem? (i := 500) (by decide +kernel), List.mem_of_getElem? (i := 501) (by decide +kernel)⟩
theorem lw_p9 : lw_okq (⟨"KeyGraves$State", "lowerNodeKnowsSame", "(II)Z"⟩, 10) := ⟨⟨by decide +kernel, by decide +kernel⟩, List.mem_of_getElem? (i := 19) (by decide +kernel), List.mem_of_getElem? (i := 535) (by decide +kernel), List.mem_of_getElem? (i := 536) (by decide +kernel)⟩
theorem lw_p10 : lw_okq (⟨"KeyGravesModel", "know", "()V"⟩, 9) := ⟨⟨by decide +kernel, by decide +kernel⟩, List.mem_of_getElem? (i := 543) (by decide +kernel), List.mem_of_getElem? (i := 584) (by decide +kernel), List.mem_of_getElem? (i := 585) (by decide +kernel)⟩
theorem lw_p11 : lw_okq (⟨"KeyGravesModel", "manyUp", "()I"⟩, 9) := ⟨⟨by decide +kernel, by decide +kernel⟩, List.mem_of_getElem? (i := 543) (by decide +kernel), List.mem_of_getElem? (i := 595) (by decide +kernel), List.mem_of_getElem? (i := 596) (by decide +kernel)⟩
theorem lw_p12 : lw_okq (⟨"KeyGravesModel", "tells", "(IIII)I"⟩, 9) := ⟨⟨by decide +kernel, by decide +kernel⟩, List.mem_of_getElem? (i := 543) (by decide +kernel), List.mem_of_getElem? (i := 606) (by decide +kernel), List.mem_of_getElem? (i := 607) (by decide +kernel)⟩
theorem lw_p13 : lw_okq (⟨"KeyGravesModel", "reached", "(III)I"⟩, 9) := ⟨⟨by decide +kernel, by decide +kernel⟩, List.mem_of_getElem? (i := 543) (by decide +kernel), List.mem_of_getElem? (i := 613) (by decide +kernel), List.mem_of_getElem? (i := 614) (by decide +kernel)⟩
theorem lw_p14 : lw_okq (⟨"KeyGravesModel", "learn", "(III)V"⟩, 9) := ⟨⟨by decide +kernel, by decide +kernel⟩, List.mem_of_getElem? (i := 543) (by decide +kernel), List.mem_of_getElem? (i := 628) (by decide +kernel), List.mem_of_getElem? (i := 629) (by decide +kernel)⟩
theorem lw_p15 : lw_okq (⟨"KeyGravesModel", "isHaunted", "(II)Z"⟩, 9) := ⟨⟨by decide +kernel, by decide +kernel⟩, List.mem_of_getElem? (i := 543) (by decide +kernel), List.mem_of_getElem? (i := 632) (by decide +kernel), List.mem_of_getElem? (i := 633) (by decide +kernel)⟩
def lw_privs_1 : List (MethodName × Nat) := [(⟨"KeyGraves", "record", "()V"⟩, 6), (⟨"KeyGraves$State", "reach", "(II)V"⟩, 10), (⟨"KeyGraves$State", "stampOf", "(II)I"⟩, 10), (⟨"KeyGraves$State", "learn", "(III)V"⟩, 10), (⟨"KeyGraves$State", "logPair", "(III)V"⟩, 10), (⟨"KeyGraves$State", "isClearable", "(II)Z"⟩, 10), (⟨"KeyGraves$State", "ticksSince", "(II)I"⟩, 10), (⟨"KeyGraves$State", "isRepairedSince", "(II)Z"⟩, 10), (⟨"KeyGraves$State", "isUnsettledGrave", "(II)Z"⟩, 10), (⟨"KeyGraves$State", "lowerNodeKnowsSame", "(II)Z"⟩, 10), (⟨"KeyGravesModel", "know", "()V"⟩, 9), (⟨"KeyGravesModel", "manyUp", "()I"⟩, 9), (⟨"KeyGravesModel", "tells", "(IIII)I"⟩, 9), (⟨"KeyGravesModel", "reached", "(III)I"⟩, 9), (⟨"KeyGravesModel", "learn", "(III)V"⟩, 9), (⟨"KeyGravesModel", "isHaunted", "(II)Z"⟩, 9)]
theorem lw_r1 : ∀ q ∈ lw_privs_1, lw_okq q := List.forall_mem_cons.mpr ⟨lw_p0, List.forall_mem_cons.mpr ⟨lw_p1, List.forall_mem_cons.mpr ⟨lw_p2, List.forall_mem_cons.mpr ⟨lw_p3, List.forall_mem_cons.mpr ⟨lw_p4, List.forall_mem_cons.mpr ⟨lw_p5, List.forall_mem_cons.mpr ⟨lw_p6, List.forall_mem_cons.mpr ⟨lw_p7, List.forall_mem_cons.mpr ⟨lw_p8, List.forall_mem_cons.mpr ⟨lw_p9, List.forall_mem_cons.mpr ⟨lw_p10, List.forall_mem_cons.mpr ⟨lw_p11, List.forall_mem_cons.mpr ⟨lw_p12, List.forall_mem_cons.mpr ⟨lw_p13, List.forall_mem_cons.mpr ⟨lw_p14, List.forall_mem_cons.mpr ⟨lw_p15, fun _ h => absurd h List.not_mem_nil⟩⟩⟩⟩⟩⟩⟩⟩⟩⟩⟩⟩⟩⟩⟩⟩
theorem lw_p16 : lw_okq (⟨"KeyGravesModel", "note", "(III)V"⟩, 9) := ⟨⟨by decide +kernel, by decide +kernel⟩, List.mem_of_getElem? (i := 543) (by decide +kernel), List.mem_of_getElem? (i := 636) (by decide +kernel), List.mem_of_getElem? (i := 637) (by decide +kernel)⟩
theorem lw_p17 : lw_okq (⟨"KeyGravesModel", "repairs", "(II)I"⟩, 9) := ⟨⟨by decide +kernel, by decide +kernel⟩, List.mem_of_getElem? (i := 543) (by decide +kernel), List.mem_of_getElem? (i := 644) (by decide +kernel), List.mem_of_getElem? (i := 645) (by decide +kernel)⟩
theorem lw_p18 : lw_okq (⟨"KeyGravesModel", "differing", "(II)I"⟩, 9) := ⟨⟨by decide +kernel, by decide +kernel⟩, List.mem_of_getElem? (i := 543) (by decide +kernel), List.mem_of_getElem? (i := 648) (by decide +kernel), List.mem_of_getElem? (i := 649) (by decide +kernel)⟩
theorem lw_p19 : lw_okq (⟨"KeyGravesModel", "toClear", "(I)I"⟩, 9) := ⟨⟨by decide +kernel, by decide +kernel⟩, List.mem_of_getElem? (i := 543) (by decide +kernel), List.mem_of_getElem? (i := 656) (by decide +kernel), List.mem_of_getElem? (i := 657) (by decide +kernel)⟩
theorem lw_p20 : lw_okq (⟨"KeyGravesModel", "isCleared", "(II)Z"⟩, 9) := ⟨⟨by decide +kernel, by decide +kernel⟩, List.mem_of_getElem? (i := 543) (by decide +kernel), List.mem_of_getElem? (i := 660) (by decide +kernel), List.mem_of_getElem? (i := 661) (by decide +kernel)⟩
theorem lw_p21 : lw_okq (⟨"KeyGravesModel", "isRipe", "(II)Z"⟩, 9) := ⟨⟨by decide +kernel, by decide +kernel⟩, List.mem_of_getElem? (i := 543) (by decide +kernel), List.mem_of_getElem? (i := 664) (by decide +kernel), List.mem_of_getElem? (i := 665) (by decide +kernel)⟩
theorem lw_p22 : lw_okq (⟨"KeyGravesModel", "plans", "(III)I"⟩, 9) := ⟨⟨by decide +kernel, by decide +kernel⟩, List.mem_of_getElem? (i := 543) (by decide +kernel), List.mem_of_getElem? (i := 672) (by decide +kernel), List.mem_of_getElem? (i := 673) (by decide +kernel)⟩
theorem lw_p23 : lw_okq (⟨"KeyGravesModel", "go", "(Z)I"⟩, 9) := ⟨⟨by decide +kernel, by decide +kernel⟩, List.mem_of_getElem? (i := 543) (by decide +kernel), List.mem_of_getElem? (i := 680) (by decide +kernel), List.mem_of_getElem? (i := 681) (by decide +kernel)⟩
theorem lw_p24 : lw_okq (⟨"KeyGravesModel", "sign", "(II)I"⟩, 9) := ⟨⟨by decide +kernel, by decide +kernel⟩, List.mem_of_getElem? (i := 543) (by decide +kernel), List.mem_of_getElem? (i := 684) (by decide +kernel), List.mem_of_getElem? (i := 685) (by decide +kernel)⟩
theorem lw_p25 : lw_okq (⟨"KeyGravesModel", "number", "()I"⟩, 9) := ⟨⟨by decide +kernel, by decide +kernel⟩, List.mem_of_getElem? (i := 543) (by decide +kernel), List.mem_of_getElem? (i := 688) (by decide +kernel), List.mem_of_getElem? (i := 689) (by decide +kernel)⟩
theorem lw_p26 : lw_okq (⟨"KeyGravesModel", "isSettled", "(II)Z"⟩, 9) := ⟨⟨by decide +kernel, by decide +kernel⟩, List.mem_of_getElem? (i := 543) (by decide +kernel), List.mem_of_getElem? (i := 725) (by decide +kernel), List.mem_of_getElem? (i := 726) (by decide +kernel)⟩
theorem lw_p27 : lw_okq (⟨"KeyGravesModel", "keysOf", "(II)I"⟩, 9) := ⟨⟨by decide +kernel, by decide +kernel⟩, List.mem_of_getElem? (i := 543) (by decide +kernel), List.mem_of_getElem? (i := 733) (by decide +kernel), List.mem_of_getElem? (i := 734) (by decide +kernel)⟩
theorem lw_p28 : lw_okq (⟨"KeyGravesModel", "isOpen", "(II)Z"⟩, 9) := ⟨⟨by decide +kernel, by decide +kernel⟩, List.mem_of_getElem? (i := 543) (by decide +kernel), List.mem_of_getElem? (i := 749) (by decide +kernel), List.mem_of_getElem? (i := 750) (by decide +kernel)⟩
theorem lw_p29 : lw_okq (⟨"KeyGravesModel", "graves", "()I"⟩, 9) := ⟨⟨by decide +kernel, by decide +kernel⟩, List.mem_of_getElem? (i := 543) (by decide +kernel), List.mem_of_getElem? (i := 765) (by decide +kernel), List.mem_of_getElem? (i := 766) (by decide +kernel)⟩
theorem lw_p30 : lw_okq (⟨"KeyGravesModel", "haunting", "()I"⟩, 9) := ⟨⟨by decide +kernel, by decide +kernel⟩, List.mem_of_getElem? (i := 543) (by decide +kernel), List.mem_of_getElem? (i := 769) (by decide +kernel), List.mem_of_getElem? (i := 770) (by decide +kernel)⟩
theorem lw_p31 : lw_okq (⟨"KeyGravesModel", "openGraves", "()I"⟩, 9) := ⟨⟨by decide +kernel, by decide +kernel⟩, List.mem_of_getElem? (i := 543) (by decide +kernel), List.mem_of_getElem? (i := 774) (by decide +kernel), List.mem_of_getElem? (i := 775) (by decide +kernel)⟩
def lw_privs_2 : List (MethodName × Nat) := [(⟨"KeyGravesModel", "note", "(III)V"⟩, 9), (⟨"KeyGravesModel", "repairs", "(II)I"⟩, 9), (⟨"KeyGravesModel", "differing", "(II)I"⟩, 9), (⟨"KeyGravesModel", "toClear", "(I)I"⟩, 9), (⟨"KeyGravesModel", "isCleared", "(II)Z"⟩, 9), (⟨"KeyGravesModel", "isRipe", "(II)Z"⟩, 9), (⟨"KeyGravesModel", "plans", "(III)I"⟩, 9), (⟨"KeyGravesModel", "go", "(Z)I"⟩, 9), (⟨"KeyGravesModel", "sign", "(II)I"⟩, 9), (⟨"KeyGravesModel", "number", "()I"⟩, 9), (⟨"KeyGravesModel", "isSettled", "(II)Z"⟩, 9), (⟨"KeyGravesModel", "keysOf", "(II)I"⟩, 9), (⟨"KeyGravesModel", "isOpen", "(II)Z"⟩, 9), (⟨"KeyGravesModel", "graves", "()I"⟩, 9), (⟨"KeyGravesModel", "haunting", "()I"⟩, 9), (⟨"KeyGravesModel", "openGraves", "()I"⟩, 9)]
theorem lw_r2 : ∀ q ∈ lw_privs_2, lw_okq q := List.forall_mem_cons.mpr ⟨lw_p16, List.forall_mem_cons.mpr ⟨lw_p17, List.forall_mem_cons.mpr ⟨lw_p18, List.forall_mem_cons.mpr ⟨lw_p19, List.forall_mem_cons.mpr ⟨lw_p20, List.forall_mem_cons.mpr ⟨lw_p21, List.forall_mem_cons.mpr ⟨lw_p22, List.forall_mem_cons.mpr ⟨lw_p23, List.forall_mem_cons.mpr ⟨lw_p24, List.forall_mem_cons.mpr ⟨lw_p25, List.forall_mem_cons.mpr ⟨lw_p26, List.forall_mem_cons.mpr ⟨lw_p27, List.forall_mem_cons.mpr ⟨lw_p28, List.forall_mem_cons.mpr ⟨lw_p29, List.forall_mem_cons.mpr ⟨lw_p30, List.forall_mem_cons.mpr ⟨lw_p31, fun _ h => absurd h List.not_mem_nil⟩⟩⟩⟩⟩⟩⟩⟩⟩⟩⟩⟩⟩⟩⟩⟩
def lw_privs : List (MethodName × Nat) := lw_privs_1 ++ (lw_privs_2)
def lw_tbl : List Cond := k2_sels lw_privs ++ tables_1
theorem lw_privs_ok : ∀ q ∈ lw_privs, lw_okq q := by
  show ∀ q ∈ lw_privs_1 ++ (lw_privs_2), lw_okq q
  exact List.forall_mem_append.mpr ⟨lw_r1, lw_r2⟩
def RX0 : String := "KeyGraves$EventLog"
def TX0 : u_T := fun k => match k with
  | 0 => ("KeyGraves$EventLog", "size", "I", false)
  | 1 => ("KeyGraves$EventLog", "newest", "I", false)
  | 2 => ("KeyGraves$EventLog", "counts", "[I", true)
  | 3 => ("KeyGraves$EventLog", "kinds", "[I", true)
  | 4 => ("KeyGraves$EventLog", "ticks", "[I", true)
  | 5 => ("KeyGraves$EventLog", "firsts", "[I", true)
  | _ => ("KeyGraves$EventLog", "seconds", "[I", true)
def tyX0 : Nat → FieldType := fun k => match k with
  | 0 => .int
  | 1 => .int
  | 2 => .array .int
  | 3 => .array .int
  | 4 => .array .int
  | 5 => .array .int
  | _ => .array .int
abbrev wsX00 : List Cond := u_ws RX0 TX0 7
theorem nmX0 : ∀ a, a < 7 → ∀ b, b < 7 → a ≠ b → (TX0 a).2.1 ≠ (TX0 b).2.1 := by decide +kernel
theorem tyX0_ok : ∀ k, k < 7 → parseFieldDescriptor (TX0 k).2.2.1 = some (tyX0 k) := by decide +kernel
abbrev cX0_init : ByteArray := prog_2_method_1_code
def yX0_init : MethodName := ⟨RX0, "<init>", "()V"⟩
abbrev cX0_copyFrom : ByteArray := prog_2_method_2_code
def yX0_copyFrom : MethodName := ⟨RX0, "copyFrom", "(LKeyGraves$EventLog;)V"⟩
abbrev cX0_add : ByteArray := prog_2_method_3_code
def yX0_add : MethodName := ⟨RX0, "add", "(IIII)V"⟩
abbrev cX0_placeOf : ByteArray := prog_2_method_4_code
def yX0_placeOf : MethodName := ⟨RX0, "placeOf", "(I)I"⟩
def RX1 : String := "KeyGraves$Facts"
def TX1 : u_T := fun k => match k with
  | 0 => ("KeyGraves$Facts", "stamps", "[I", true)
  | 1 => ("KeyGraves$Facts", "contents", "[I", true)
  | 2 => ("KeyGraves$Facts", "ticks", "[I", true)
  | _ => ("KeyGraves$Facts", "learned", "[I", true)
def tyX1 : Nat → FieldType := fun k => match k with
  | 0 => .array .int
  | 1 => .array .int
  | 2 => .array .int
  | _ => .array .int
abbrev wsX10 : List Cond := u_ws RX1 TX1 4
theorem nmX1 : ∀ a, a < 4 → ∀ b, b < 4 → a ≠ b → (TX1 a).2.1 ≠ (TX1 b).2.1 := by decide +kernel
theorem tyX1_ok : ∀ k, k < 4 → parseFieldDescriptor (TX1 k).2.2.1 = some (tyX1 k) := by decide +kernel
abbrev cX1_init : ByteArray := prog_3_method_1_code
def yX1_init : MethodName := ⟨RX1, "<init>", "()V"⟩
abbrev cX1_copyFrom : ByteArray := prog_3_method_2_code
def yX1_copyFrom : MethodName := ⟨RX1, "copyFrom", "(LKeyGraves$Facts;)V"⟩
abbrev cX1_kindAt : ByteArray := prog_3_method_3_code
def yX1_kindAt : MethodName := ⟨RX1, "kindAt", "(I)I"⟩
abbrev cX1_valueAt : ByteArray := prog_3_method_4_code
def yX1_valueAt : MethodName := ⟨RX1, "valueAt", "(I)I"⟩
abbrev cX1_put : ByteArray := prog_3_method_5_code
def yX1_put : MethodName := ⟨RX1, "put", "(IIII)V"⟩
abbrev cX1_take : ByteArray := prog_3_method_6_code
def yX1_take : MethodName := ⟨RX1, "take", "(III)V"⟩
abbrev cX1_forget : ByteArray := prog_3_method_7_code
def yX1_forget : MethodName := ⟨RX1, "forget", "(I)V"⟩
def RX2 : String := "KeyGraves$Plan"
def TX2 : u_T := fun k => match k with
  | 0 => ("KeyGraves$Plan", "size", "I", false)
  | 1 => ("KeyGraves$Plan", "ones", "[I", true)
  | 2 => ("KeyGraves$Plan", "others", "[I", true)
  | _ => ("KeyGraves$Plan", "ticks", "[I", true)
def tyX2 : Nat → FieldType := fun k => match k with
  | 0 => .int
  | 1 => .array .int
  | 2 => .array .int
  | _ => .array .int
abbrev wsX20 : List Cond := u_ws RX2 TX2 4
theorem nmX2 : ∀ a, a < 4 → ∀ b, b < 4 → a ≠ b → (TX2 a).2.1 ≠ (TX2 b).2.1 := by decide +kernel
theorem tyX2_ok : ∀ k, k < 4 → parseFieldDescriptor (TX2 k).2.2.1 = some (tyX2 k) := by decide +kernel
abbrev cX2_init : ByteArray := prog_4_method_1_code
def yX2_init : MethodName := ⟨RX2, "<init>", "()V"⟩
abbrev cX2_copyFrom : ByteArray := prog_4_method_2_code
def yX2_copyFrom : MethodName := ⟨RX2, "copyFrom", "(LKeyGraves$Plan;)V"⟩
abbrev cX2_add : ByteArray := prog_4_method_3_code
def yX2_add : MethodName := ⟨RX2, "add", "(III)V"⟩
def RX3 : String := "KeyGraves$PlanText"
def TX3 : u_T := fun k => match k with
  | 0 => ("KeyGraves$PlanText", "signs", "[C", true)
  | _ => ("KeyGraves$PlanText", "length", "I", false)
def tyX3 : Nat → FieldType := fun k => match k with
  | 0 => .array .char
  | _ => .int
abbrev wsX30 : List Cond := u_ws RX3 TX3 2
theorem nmX3 : ∀ a, a < 2 → ∀ b, b < 2 → a ≠ b → (TX3 a).2.1 ≠ (TX3 b).2.1 := by decide +kernel
theorem tyX3_ok : ∀ k, k < 2 → parseFieldDescriptor (TX3 k).2.2.1 = some (tyX3 k) := by decide +kernel
abbrev cX3_init : ByteArray := prog_5_method_1_code
def yX3_init : MethodName := ⟨RX3, "<init>", "()V"⟩
abbrev cX3_fault : ByteArray := prog_5_method_2_code
def yX3_fault : MethodName := ⟨RX3, "fault", "()I"⟩
abbrev cX3_repairs : ByteArray := prog_5_method_3_code
def yX3_repairs : MethodName := ⟨RX3, "repairs", "()I"⟩
abbrev cX3_fill : ByteArray := prog_5_method_4_code
def yX3_fill : MethodName := ⟨RX3, "fill", "(LKeyGraves$Plan;)V"⟩
abbrev cX3_placeBehind : ByteArray := prog_5_method_5_code
def yX3_placeBehind : MethodName := ⟨RX3, "placeBehind", "(ICC)I"⟩
abbrev cX3_isNodeSign : ByteArray := prog_5_method_6_code
def yX3_isNodeSign : MethodName := ⟨RX3, "isNodeSign", "(C)Z"⟩
abbrev cX3_isDigit : ByteArray := prog_5_method_7_code
def yX3_isDigit : MethodName := ⟨RX3, "isDigit", "(C)Z"⟩
def RX4 : String := "KeyGraves$State"
def TX4 : u_T := fun k => match k with
  | 0 => ("KeyGraves$State", "tick", "I", false)
  | 1 => ("KeyGraves$State", "stampsGiven", "I", false)
  | 2 => ("KeyGraves$State", "settings", "[I", true)
  | 3 => ("KeyGraves$State", "up", "[Z", true)
  | 4 => ("KeyGraves$State", "facts", "LKeyGraves$Facts;", true)
  | 5 => ("KeyGraves$State", "lastRepairs", "[I", true)
  | 6 => ("KeyGraves$State", "plan", "LKeyGraves$Plan;", true)
  | 7 => ("KeyGraves$State", "log", "LKeyGraves$EventLog;", true)
  | 8 => ("KeyGraves$State", "reached", "[I", true)
  | _ => ("KeyGraves$State", "reachedCount", "I", false)
def tyX4 : Nat → FieldType := fun k => match k with
  | 0 => .int
  | 1 => .int
  | 2 => .array .int
  | 3 => .array .boolean
  | 4 => .object "KeyGraves$Facts"
  | 5 => .array .int
  | 6 => .object "KeyGraves$Plan"
  | 7 => .object "KeyGraves$EventLog"
  | 8 => .array .int
  | _ => .int
abbrev wsX40 : List Cond := u_ws RX4 TX4 10
theorem nmX4 : ∀ a, a < 10 → ∀ b, b < 10 → a ≠ b → (TX4 a).2.1 ≠ (TX4 b).2.1 := by decide +kernel
theorem tyX4_ok : ∀ k, k < 10 → parseFieldDescriptor (TX4 k).2.2.1 = some (tyX4 k) := by decide +kernel
abbrev cX4_init : ByteArray := prog_6_method_1_code
def yX4_init : MethodName := ⟨RX4, "<init>", "()V"⟩
abbrev cX4_copyFrom : ByteArray := prog_6_method_2_code
def yX4_copyFrom : MethodName := ⟨RX4, "copyFrom", "(LKeyGraves$State;)V"⟩
abbrev cX4_reach : ByteArray := prog_6_method_3_code
def yX4_reach : MethodName := ⟨RX4, "reach", "(II)V"⟩
abbrev cX4_spread : ByteArray := prog_6_method_4_code
def yX4_spread : MethodName := ⟨RX4, "spread", "(III)I"⟩
abbrev cX4_newestReached : ByteArray := prog_6_method_5_code
def yX4_newestReached : MethodName := ⟨RX4, "newestReached", "(II)I"⟩
abbrev cX4_reachedDiffer : ByteArray := prog_6_method_6_code
def yX4_reachedDiffer : MethodName := ⟨RX4, "reachedDiffer", "(II)Z"⟩
abbrev cX4_mend : ByteArray := prog_6_method_7_code
def yX4_mend : MethodName := ⟨RX4, "mend", "(II)V"⟩
abbrev cX4_stampOf : ByteArray := prog_6_method_8_code
def yX4_stampOf : MethodName := ⟨RX4, "stampOf", "(II)I"⟩
abbrev cX4_learn : ByteArray := prog_6_method_9_code
def yX4_learn : MethodName := ⟨RX4, "learn", "(III)V"⟩
abbrev cX4_join : ByteArray := prog_6_method_10_code
def yX4_join : MethodName := ⟨RX4, "join", "(II)I"⟩
abbrev cX4_logPair : ByteArray := prog_6_method_11_code
def yX4_logPair : MethodName := ⟨RX4, "logPair", "(III)V"⟩
abbrev cX4_keysKnownOtherwise : ByteArray := prog_6_method_12_code
def yX4_keysKnownOtherwise : MethodName := ⟨RX4, "keysKnownOtherwise", "(II)I"⟩
abbrev cX4_passTick : ByteArray := prog_6_method_13_code
def yX4_passTick : MethodName := ⟨RX4, "passTick", "()I"⟩
abbrev cX4_slowestPair : ByteArray := prog_6_method_14_code
def yX4_slowestPair : MethodName := ⟨RX4, "slowestPair", "()I"⟩
abbrev cX4_isGrave : ByteArray := prog_6_method_15_code
def yX4_isGrave : MethodName := ⟨RX4, "isGrave", "(II)Z"⟩
abbrev cX4_ticksSince : ByteArray := prog_6_method_16_code
def yX4_ticksSince : MethodName := ⟨RX4, "ticksSince", "(II)I"⟩
abbrev cX4_isRipe : ByteArray := prog_6_method_17_code
def yX4_isRipe : MethodName := ⟨RX4, "isRipe", "(II)Z"⟩
abbrev cX4_isClearable : ByteArray := prog_6_method_18_code
def yX4_isClearable : MethodName := ⟨RX4, "isClearable", "(II)Z"⟩
abbrev cX4_isRepairedSince : ByteArray := prog_6_method_19_code
def yX4_isRepairedSince : MethodName := ⟨RX4, "isRepairedSince", "(II)Z"⟩
abbrev cX4_clearableGraves : ByteArray := prog_6_method_20_code
def yX4_clearableGraves : MethodName := ⟨RX4, "clearableGraves", "(I)I"⟩
abbrev cX4_clearGraves : ByteArray := prog_6_method_21_code
def yX4_clearGraves : MethodName := ⟨RX4, "clearGraves", "(I)I"⟩
abbrev cX4_isSettledGrave : ByteArray := prog_6_method_22_code
def yX4_isSettledGrave : MethodName := ⟨RX4, "isSettledGrave", "(II)Z"⟩
abbrev cX4_isUnsettledGrave : ByteArray := prog_6_method_23_code
def yX4_isUnsettledGrave : MethodName := ⟨RX4, "isUnsettledGrave", "(II)Z"⟩
abbrev cX4_gravesNotSettled : ByteArray := prog_6_method_24_code
def yX4_gravesNotSettled : MethodName := ⟨RX4, "gravesNotSettled", "()I"⟩
abbrev cX4_lowerNodeKnowsSame : ByteArray := prog_6_method_25_code
def yX4_lowerNodeKnowsSame : MethodName := ⟨RX4, "lowerNodeKnowsSame", "(II)Z"⟩
abbrev cX4_safeGrace : ByteArray := prog_6_method_26_code
def yX4_safeGrace : MethodName := ⟨RX4, "safeGrace", "()I"⟩
abbrev cX4_isHaunted : ByteArray := prog_6_method_27_code
def yX4_isHaunted : MethodName := ⟨RX4, "isHaunted", "(II)Z"⟩
abbrev cX4_nodesUp : ByteArray := prog_6_method_28_code
def yX4_nodesUp : MethodName := ⟨RX4, "nodesUp", "()I"⟩
abbrev cX4_nodesWithTruth : ByteArray := prog_6_method_29_code
def yX4_nodesWithTruth : MethodName := ⟨RX4, "nodesWithTruth", "(I)I"⟩
abbrev cX4_nodesHauntedBy : ByteArray := prog_6_method_30_code
def yX4_nodesHauntedBy : MethodName := ⟨RX4, "nodesHauntedBy", "(I)I"⟩
abbrev cX4_keysThatHaunt : ByteArray := prog_6_method_31_code
def yX4_keysThatHaunt : MethodName := ⟨RX4, "keysThatHaunt", "(I)I"⟩
abbrev cX4_hauntingKeys : ByteArray := prog_6_method_32_code
def yX4_hauntingKeys : MethodName := ⟨RX4, "hauntingKeys", "()I"⟩
abbrev cX4_keysOfKind : ByteArray := prog_6_method_33_code
def yX4_keysOfKind : MethodName := ⟨RX4, "keysOfKind", "(II)I"⟩
abbrev cX4_ripeGraves : ByteArray := prog_6_method_34_code
def yX4_ripeGraves : MethodName := ⟨RX4, "ripeGraves", "(I)I"⟩
abbrev cX4_gravesOfAllNodes : ByteArray := prog_6_method_35_code
def yX4_gravesOfAllNodes : MethodName := ⟨RX4, "gravesOfAllNodes", "()I"⟩
def RX5 : String := "KeyGraves"
def TX5 : u_T := fun k => match k with
  | 0 => ("KeyGraves", "state", "LKeyGraves$State;", true)
  | 1 => ("KeyGraves", "history", "[LKeyGraves$State;", true)
  | 2 => ("KeyGraves", "historySize", "I", false)
  | 3 => ("KeyGraves", "snapshot", "LKeyGraves$State;", true)
  | 4 => ("KeyGraves", "snapshotTaken", "Z", false)
  | _ => ("KeyGraves", "text", "LKeyGraves$PlanText;", true)
def tyX5 : Nat → FieldType := fun k => match k with
  | 0 => .object "KeyGraves$State"
  | 1 => .array (.object "KeyGraves$State")
  | 2 => .int
  | 3 => .object "KeyGraves$State"
  | 4 => .boolean
  | _ => .object "KeyGraves$PlanText"
abbrev wsX50 : List Cond := u_ws RX5 TX5 6
theorem nmX5 : ∀ a, a < 6 → ∀ b, b < 6 → a ≠ b → (TX5 a).2.1 ≠ (TX5 b).2.1 := by decide +kernel
theorem tyX5_ok : ∀ k, k < 6 → parseFieldDescriptor (TX5 k).2.2.1 = some (tyX5 k) := by decide +kernel
abbrev cX5_init : ByteArray := prog_1_method_1_code
def yX5_init : MethodName := ⟨RX5, "<init>", "()V"⟩
abbrev cX5_set : ByteArray := prog_1_method_2_code
def yX5_set : MethodName := ⟨RX5, "set", "(II)I"⟩
abbrev cX5_setUp : ByteArray := prog_1_method_3_code
def yX5_setUp : MethodName := ⟨RX5, "setUp", "(IZ)I"⟩
abbrev cX5_write : ByteArray := prog_1_method_4_code
def yX5_write : MethodName := ⟨RX5, "write", "(III)I"⟩
abbrev cX5_delete : ByteArray := prog_1_method_5_code
def yX5_delete : MethodName := ⟨RX5, "delete", "(II)I"⟩
abbrev cX5_read : ByteArray := prog_1_method_6_code
def yX5_read : MethodName := ⟨RX5, "read", "(II)I"⟩
abbrev cX5_repair : ByteArray := prog_1_method_7_code
def yX5_repair : MethodName := ⟨RX5, "repair", "(II)I"⟩
abbrev cX5_clear : ByteArray := prog_1_method_8_code
def yX5_clear : MethodName := ⟨RX5, "clear", "(I)I"⟩
abbrev cX5_plan : ByteArray := prog_1_method_9_code
def yX5_plan : MethodName := ⟨RX5, "plan", "(III)I"⟩
abbrev cX5_readPlan : ByteArray := prog_1_method_10_code
def yX5_readPlan : MethodName := ⟨RX5, "readPlan", "()I"⟩
abbrev cX5_pass : ByteArray := prog_1_method_11_code
def yX5_pass : MethodName := ⟨RX5, "pass", "(I)I"⟩
abbrev cX5_type : ByteArray := prog_1_method_12_code
def yX5_type : MethodName := ⟨RX5, "type", "(C)I"⟩
abbrev cX5_clearText : ByteArray := prog_1_method_13_code
def yX5_clearText : MethodName := ⟨RX5, "clearText", "()I"⟩
abbrev cX5_undo : ByteArray := prog_1_method_14_code
def yX5_undo : MethodName := ⟨RX5, "undo", "()I"⟩
abbrev cX5_keep : ByteArray := prog_1_method_15_code
def yX5_keep : MethodName := ⟨RX5, "keep", "()I"⟩
abbrev cX5_restore : ByteArray := prog_1_method_16_code
def yX5_restore : MethodName := ⟨RX5, "restore", "()I"⟩
abbrev cX5_known : ByteArray := prog_1_method_17_code
def yX5_known : MethodName := ⟨RX5, "known", "(III)I"⟩
abbrev cX5_truth : ByteArray := prog_1_method_18_code
def yX5_truth : MethodName := ⟨RX5, "truth", "(II)I"⟩
abbrev cX5_node : ByteArray := prog_1_method_19_code
def yX5_node : MethodName := ⟨RX5, "node", "(II)I"⟩
abbrev cX5_pair : ByteArray := prog_1_method_20_code
def yX5_pair : MethodName := ⟨RX5, "pair", "(III)I"⟩
abbrev cX5_slowest : ByteArray := prog_1_method_21_code
def yX5_slowest : MethodName := ⟨RX5, "slowest", "()I"⟩
abbrev cX5_graceNeeded : ByteArray := prog_1_method_22_code
def yX5_graceNeeded : MethodName := ⟨RX5, "graceNeeded", "()I"⟩
abbrev cX5_event : ByteArray := prog_1_method_23_code
def yX5_event : MethodName := ⟨RX5, "event", "(II)I"⟩
abbrev cX5_planned : ByteArray := prog_1_method_24_code
def yX5_planned : MethodName := ⟨RX5, "planned", "(II)I"⟩
abbrev cX5_count : ByteArray := prog_1_method_25_code
def yX5_count : MethodName := ⟨RX5, "count", "(I)I"⟩
abbrev cX5_setting : ByteArray := prog_1_method_26_code
def yX5_setting : MethodName := ⟨RX5, "setting", "(I)I"⟩
abbrev cX5_isNode : ByteArray := prog_1_method_27_code
def yX5_isNode : MethodName := ⟨RX5, "isNode", "(I)Z"⟩
abbrev cX5_isKey : ByteArray := prog_1_method_28_code
def yX5_isKey : MethodName := ⟨RX5, "isKey", "(I)Z"⟩
abbrev cX5_isSetting : ByteArray := prog_1_method_29_code
def yX5_isSetting : MethodName := ⟨RX5, "isSetting", "(I)Z"⟩
abbrev cX5_place : ByteArray := prog_1_method_30_code
def yX5_place : MethodName := ⟨RX5, "place", "(II)I"⟩
abbrev cX5_pairPlace : ByteArray := prog_1_method_31_code
def yX5_pairPlace : MethodName := ⟨RX5, "pairPlace", "(II)I"⟩
abbrev cX5_record : ByteArray := prog_1_method_32_code
def yX5_record : MethodName := ⟨RX5, "record", "()V"⟩
def RX6 : String := "KeyGravesModel"
def TX6 : u_T := fun k => match k with
  | 0 => ("KeyGravesModel", "s", "[I", true)
  | 1 => ("KeyGravesModel", "before", "[I", true)
  | 2 => ("KeyGravesModel", "known", "I", false)
  | 3 => ("KeyGravesModel", "kept", "[I", true)
  | 4 => ("KeyGravesModel", "isKept", "Z", false)
  | 5 => ("KeyGravesModel", "text", "[I", true)
  | 6 => ("KeyGravesModel", "typed", "I", false)
  | 7 => ("KeyGravesModel", "at", "I", false)
  | _ => ("KeyGravesModel", "isWrong", "Z", false)
def tyX6 : Nat → FieldType := fun k => match k with
  | 0 => .array .int
  | 1 => .array .int
  | 2 => .int
  | 3 => .array .int
  | 4 => .boolean
  | 5 => .array .int
  | 6 => .int
  | 7 => .int
  | _ => .boolean
abbrev wsX60 : List Cond := u_ws RX6 TX6 9
theorem nmX6 : ∀ a, a < 9 → ∀ b, b < 9 → a ≠ b → (TX6 a).2.1 ≠ (TX6 b).2.1 := by decide +kernel
theorem tyX6_ok : ∀ k, k < 9 → parseFieldDescriptor (TX6 k).2.2.1 = some (tyX6 k) := by decide +kernel
abbrev cX6_init : ByteArray := prog_8_method_1_code
def yX6_init : MethodName := ⟨RX6, "<init>", "()V"⟩
abbrev cX6_in : ByteArray := prog_8_method_3_code
def yX6_in : MethodName := ⟨RX6, "in", "(III)Z"⟩
abbrev cX6_isNode : ByteArray := prog_8_method_4_code
def yX6_isNode : MethodName := ⟨RX6, "isNode", "(I)Z"⟩
abbrev cX6_isKey : ByteArray := prog_8_method_5_code
def yX6_isKey : MethodName := ⟨RX6, "isKey", "(I)Z"⟩
abbrev cX6_of : ByteArray := prog_8_method_6_code
def yX6_of : MethodName := ⟨RX6, "of", "(III)I"⟩
abbrev cX6_truthOf : ByteArray := prog_8_method_7_code
def yX6_truthOf : MethodName := ⟨RX6, "truthOf", "(II)I"⟩
abbrev cX6_know : ByteArray := prog_8_method_8_code
def yX6_know : MethodName := ⟨RX6, "know", "()V"⟩
abbrev cX6_set : ByteArray := prog_8_method_9_code
def yX6_set : MethodName := ⟨RX6, "set", "(II)I"⟩
abbrev cX6_manyUp : ByteArray := prog_8_method_10_code
def yX6_manyUp : MethodName := ⟨RX6, "manyUp", "()I"⟩
abbrev cX6_setUp : ByteArray := prog_8_method_11_code
def yX6_setUp : MethodName := ⟨RX6, "setUp", "(IZ)I"⟩
abbrev cX6_note : ByteArray := prog_8_method_12_code
def yX6_note : MethodName := ⟨RX6, "note", "(III)V"⟩
abbrev cX6_isHaunted : ByteArray := prog_8_method_13_code
def yX6_isHaunted : MethodName := ⟨RX6, "isHaunted", "(II)Z"⟩
abbrev cX6_learn : ByteArray := prog_8_method_14_code
def yX6_learn : MethodName := ⟨RX6, "learn", "(III)V"⟩
abbrev cX6_reached : ByteArray := prog_8_method_15_code
def yX6_reached : MethodName := ⟨RX6, "reached", "(III)I"⟩
abbrev cX6_tells : ByteArray := prog_8_method_16_code
def yX6_tells : MethodName := ⟨RX6, "tells", "(IIII)I"⟩
abbrev cX6_write : ByteArray := prog_8_method_17_code
def yX6_write : MethodName := ⟨RX6, "write", "(III)I"⟩
abbrev cX6_delete : ByteArray := prog_8_method_18_code
def yX6_delete : MethodName := ⟨RX6, "delete", "(II)I"⟩
abbrev cX6_read : ByteArray := prog_8_method_19_code
def yX6_read : MethodName := ⟨RX6, "read", "(II)I"⟩
abbrev cX6_differing : ByteArray := prog_8_method_20_code
def yX6_differing : MethodName := ⟨RX6, "differing", "(II)I"⟩
abbrev cX6_repairs : ByteArray := prog_8_method_21_code
def yX6_repairs : MethodName := ⟨RX6, "repairs", "(II)I"⟩
abbrev cX6_repair : ByteArray := prog_8_method_22_code
def yX6_repair : MethodName := ⟨RX6, "repair", "(II)I"⟩
abbrev cX6_isRipe : ByteArray := prog_8_method_23_code
def yX6_isRipe : MethodName := ⟨RX6, "isRipe", "(II)Z"⟩
abbrev cX6_isCleared : ByteArray := prog_8_method_24_code
def yX6_isCleared : MethodName := ⟨RX6, "isCleared", "(II)Z"⟩
abbrev cX6_toClear : ByteArray := prog_8_method_25_code
def yX6_toClear : MethodName := ⟨RX6, "toClear", "(I)I"⟩
abbrev cX6_clear : ByteArray := prog_8_method_26_code
def yX6_clear : MethodName := ⟨RX6, "clear", "(I)I"⟩
abbrev cX6_plans : ByteArray := prog_8_method_27_code
def yX6_plans : MethodName := ⟨RX6, "plans", "(III)I"⟩
abbrev cX6_plan : ByteArray := prog_8_method_28_code
def yX6_plan : MethodName := ⟨RX6, "plan", "(III)I"⟩
abbrev cX6_sign : ByteArray := prog_8_method_29_code
def yX6_sign : MethodName := ⟨RX6, "sign", "(II)I"⟩
abbrev cX6_number : ByteArray := prog_8_method_30_code
def yX6_number : MethodName := ⟨RX6, "number", "()I"⟩
abbrev cX6_go : ByteArray := prog_8_method_31_code
def yX6_go : MethodName := ⟨RX6, "go", "(Z)I"⟩
abbrev cX6_readPlan : ByteArray := prog_8_method_32_code
def yX6_readPlan : MethodName := ⟨RX6, "readPlan", "()I"⟩
abbrev cX6_pass : ByteArray := prog_8_method_33_code
def yX6_pass : MethodName := ⟨RX6, "pass", "(I)I"⟩
abbrev cX6_type : ByteArray := prog_8_method_34_code
def yX6_type : MethodName := ⟨RX6, "type", "(C)I"⟩
abbrev cX6_clearText : ByteArray := prog_8_method_35_code
def yX6_clearText : MethodName := ⟨RX6, "clearText", "()I"⟩
abbrev cX6_undo : ByteArray := prog_8_method_36_code
def yX6_undo : MethodName := ⟨RX6, "undo", "()I"⟩
abbrev cX6_keep : ByteArray := prog_8_method_37_code
def yX6_keep : MethodName := ⟨RX6, "keep", "()I"⟩
abbrev cX6_restore : ByteArray := prog_8_method_38_code
def yX6_restore : MethodName := ⟨RX6, "restore", "()I"⟩
abbrev cX6_known : ByteArray := prog_8_method_39_code
def yX6_known : MethodName := ⟨RX6, "known", "(III)I"⟩
abbrev cX6_isSettled : ByteArray := prog_8_method_40_code
def yX6_isSettled : MethodName := ⟨RX6, "isSettled", "(II)Z"⟩
abbrev cX6_truth : ByteArray := prog_8_method_41_code
def yX6_truth : MethodName := ⟨RX6, "truth", "(II)I"⟩
abbrev cX6_keysOf : ByteArray := prog_8_method_42_code
def yX6_keysOf : MethodName := ⟨RX6, "keysOf", "(II)I"⟩
abbrev cX6_node : ByteArray := prog_8_method_43_code
def yX6_node : MethodName := ⟨RX6, "node", "(II)I"⟩
abbrev cX6_pair : ByteArray := prog_8_method_44_code
def yX6_pair : MethodName := ⟨RX6, "pair", "(III)I"⟩
abbrev cX6_slowest : ByteArray := prog_8_method_45_code
def yX6_slowest : MethodName := ⟨RX6, "slowest", "()I"⟩
abbrev cX6_isOpen : ByteArray := prog_8_method_46_code
def yX6_isOpen : MethodName := ⟨RX6, "isOpen", "(II)Z"⟩
abbrev cX6_graceNeeded : ByteArray := prog_8_method_47_code
def yX6_graceNeeded : MethodName := ⟨RX6, "graceNeeded", "()I"⟩
abbrev cX6_event : ByteArray := prog_8_method_48_code
def yX6_event : MethodName := ⟨RX6, "event", "(II)I"⟩
abbrev cX6_planned : ByteArray := prog_8_method_49_code
def yX6_planned : MethodName := ⟨RX6, "planned", "(II)I"⟩
abbrev cX6_graves : ByteArray := prog_8_method_50_code
def yX6_graves : MethodName := ⟨RX6, "graves", "()I"⟩
abbrev cX6_haunting : ByteArray := prog_8_method_51_code
def yX6_haunting : MethodName := ⟨RX6, "haunting", "()I"⟩
abbrev cX6_openGraves : ByteArray := prog_8_method_52_code
def yX6_openGraves : MethodName := ⟨RX6, "openGraves", "()I"⟩
abbrev cX6_count : ByteArray := prog_8_method_53_code
def yX6_count : MethodName := ⟨RX6, "count", "(I)I"⟩
abbrev cX6_setting : ByteArray := prog_8_method_54_code
def yX6_setting : MethodName := ⟨RX6, "setting", "(I)I"⟩
def RJ9 : String := "java/lang/Math"
def TJ9 : u_T := fun k => match k with
  | _ => ("", "", "", false)
def tyJ9 : Nat → FieldType := fun k => match k with
  | _ => .int
abbrev wsJ90 : List Cond := u_ws RJ9 TJ9 0
theorem nmJ9 : ∀ a, a < 0 → ∀ b, b < 0 → a ≠ b → (TJ9 a).2.1 ≠ (TJ9 b).2.1 := by decide +kernel
theorem tyJ9_ok : ∀ k, k < 0 → parseFieldDescriptor (TJ9 k).2.2.1 = some (tyJ9 k) := by decide +kernel
abbrev cJ9_max_7cf53 : ByteArray := prog_9_method_65_code
def yJ9_max_7cf53 : MethodName := ⟨RJ9, "max", "(II)I"⟩
abbrev cJ9_min_7cf53 : ByteArray := prog_9_method_69_code
def yJ9_min_7cf53 : MethodName := ⟨RJ9, "min", "(II)I"⟩
def RJ10 : String := "java/lang/System"
def TJ10 : u_T := fun k => match k with
  | _ => ("", "", "", false)
def tyJ10 : Nat → FieldType := fun k => match k with
  | _ => .int
abbrev wsJ100 : List Cond := u_ws RJ10 TJ10 0
theorem nmJ10 : ∀ a, a < 0 → ∀ b, b < 0 → a ≠ b → (TJ10 a).2.1 ≠ (TJ10 b).2.1 := by decide +kernel
theorem tyJ10_ok : ∀ k, k < 0 → parseFieldDescriptor (TJ10 k).2.2.1 = some (tyJ10 k) := by decide +kernel
def RL : String := "KeyGravesLaw"
abbrev cL_law : ByteArray := code
def yL_law : MethodName := ⟨RL, "law", "([I)Z"⟩
def vwCl : List vw_C := [(RX0, TX0, 7), (RX1, TX1, 4), (RX2, TX2, 4), (RX3, TX3, 2), (RX4, TX4, 10), (RX5, TX5, 6), (RX6, TX6, 9)]
set_option maxRecDepth 100000 in
theorem kg_in0 : ∀ w ∈ wsX00, w ∈ lw_tbl := by decide +kernel
set_option maxRecDepth 100000 in
theorem kg_in1 : ∀ w ∈ wsX10, w ∈ lw_tbl := by decide +kernel
set_option maxRecDepth 100000 in
theorem kg_in2 : ∀ w ∈ wsX20, w ∈ lw_tbl := by decide +kernel
set_option maxRecDepth 100000 in
theorem kg_in3 : ∀ w ∈ wsX30, w ∈ lw_tbl := by decide +kernel
set_option maxRecDepth 100000 in
theorem kg_in4 : ∀ w ∈ wsX40, w ∈ lw_tbl := by decide +kernel
set_option maxRecDepth 100000 in
theorem kg_in5 : ∀ w ∈ wsX50, w ∈ lw_tbl := by decide +kernel
set_option maxRecDepth 100000 in
theorem kg_in6 : ∀ w ∈ wsX60, w ∈ lw_tbl := by decide +kernel
end
section
/-! THE ABSTRACT MACHINE: places instead of addresses; a memory of ints, a table of refs -/
abbrev kg_M : Type := Nat → Nat → Int32
abbrev kg_Rf : Type := Nat → Nat → Nat
abbrev kg_W : Type := Nat × kg_Rf
def kg_sb (r : Nat) : Nat × Nat := match r with
  | 0 => (4, 4) | 1 => (0, 5) | 2 => (1, 4) | 3 => (4, 1) | 4 => (0, 40) | 5 => (0, 40) | 6 => (0, 40) | 7 => (0, 40) | 8 => (0, 16) | 9 => (4, 2) | 10 => (0, 10) | 11 => (0, 10) | 12 => (0, 10) | 13 => (4, 0) | 14 => (0, 4) | 15 => (0, 10) | 16 => (0, 10) | 17 => (0, 10) | 18 => (0, 10) | _ => (0, 4)
def kg_kd (p : Nat) : Nat × Nat := if p = 0 then (4, 5) else if p ≤ 20 then kg_sb (p - 1) else if p = 21 then (3, 4) else if p ≤ 121 then kg_sb ((p - 22) % 20) else match p with
  | 122 => (4, 3) | 123 => (2, 60) | 124 => (4, 6) | 125 => (0, 287) | 126 => (0, 1148) | 127 => (0, 287) | 128 => (0, 60) | _ => (5, 0)
def kg_nf (c : Nat) : Nat := match c with | 0 => 7 | 1 => 4 | 2 => 4 | 3 => 2 | 4 => 10 | 5 => 6 | _ => 9
/-- is the k-th field of class c a ref -/
def kg_fr (c k : Nat) : Bool := match c with
  | 0 => decide (2 ≤ k) | 1 => true | 2 => decide (1 ≤ k) | 3 => decide (k = 0) | 4 => decide (2 ≤ k ∧ k ≤ 8) | 5 => decide (k ≠ 2 ∧ k ≠ 4) | _ => decide (k = 0 ∨ k = 1 ∨ k = 3 ∨ k = 5)
def kg_ro (b r : Nat) : Option Nat := if r = 0 then none else some (b + r)
def kg_fs (b : Nat) (w : kg_W) (M : kg_M) (p c : Nat) : List Value := (List.range (kg_nf c)).map (fun k => if kg_fr c k = true then va_rf (kg_ro b (w.2 p k)) else .int (M p k))
def kg_ce (b : Nat) (cA : Nat → ClassId) (w : kg_W) (M : kg_M) (p : Nat) : va_E :=
  if (kg_kd p).1 = 3 then .inl (cA 3, (kg_kd p).2, .inr (.inr (.inr (.inr (fun i => kg_ro b (w.2 p i))))))
  else if (kg_kd p).1 = 4 then .inr ((kg_kd p).2, kg_fs b w M p (kg_kd p).2)
  else .inl (cA (kg_kd p).1, (kg_kd p).2, .inl (M p))
def kg_wl (b : Nat) (cA : Nat → ClassId) (w : kg_W) (M : kg_M) : va_W := (List.range w.1).map (fun p => (b + p, kg_ce b cA w M p))
/-- the launch, the first address, the classes, the array classes, the statics' and the script's addresses, the script -/
abbrev kg_G : Type := Launch × Nat × va_G × (Nat → ClassId) × (Nat → Nat) × Nat × (Nat → Int32)
abbrev kg_b (G : kg_G) : Nat := G.2.1
abbrev kg_A (G : kg_G) : Nat → Prop := fun q => kg_b G ≤ q
def kg_cv (G : kg_G) (v : Value) : Value := match v with
  | .int x => .int x
  | .ref p => .ref (if p < 1000 then kg_b G + p else G.2.2.2.2.1 (p - 1000))
  | _ => .null
theorem kg_cat (G : kg_G) (v : Value) : (kg_cv G v).category = 1 := by cases v <;> rfl
theorem kg_cvref (G : kg_G) {p : Nat} (h : p < 1000) : kg_cv G (.ref p) = .ref (kg_b G + p) := by simp [kg_cv, h]
def kg_lg {α : Type} : List (Option α) → Nat → Option α
  | [], _ => none
  | x :: _, 0 => x
  | _ :: l, n + 1 => kg_lg l n
def kg_ls {α : Type} : List (Option α) → Nat → α → List (Option α)
  | [], _, _ => []
  | _ :: l, 0, v => some v :: l
  | x :: l, n + 1, v => x :: kg_ls l n v
theorem kg_lg_ls {α : Type} : ∀ (l : List (Option α)) (i j : Nat) (v w : α), kg_lg (kg_ls l i v) j = some w → (j = i ∧ w = v) ∨ (j ≠ i ∧ kg_lg l j = some w)
  | [], i, j, v, w, h => by simp [kg_ls, kg_lg] at h
  | x :: l, 0, 0, v, w, h => by simp [kg_ls, kg_lg] at h; exact Or.inl ⟨rfl, h.symm⟩
  | x :: l, 0, j + 1, v, w, h => by simp [kg_ls, kg_lg] at h; exact Or.inr ⟨by omega, h⟩
  | x :: l, i + 1, 0, v, w, h => by simp [kg_ls, kg_lg] at h; exact Or.inr ⟨by omega, h⟩
  | x :: l, i + 1, j + 1, v, w, h => by
    have h1 := kg_lg_ls l i j v w h
    rcases h1 with ⟨a, b⟩ | ⟨a, b⟩
    · exact Or.inl ⟨by omega, b⟩
    · exact Or.inr ⟨by omega, b⟩
def kg_cl (G : kg_G) (n : Nat) (ls : List (Option Value)) : List (Nat × Value) := (List.range n).filterMap (fun i => (kg_lg ls i).map (fun v => (i, kg_cv G v)))
theorem kg_cl_in {G : kg_G} {n i : Nat} {ls : List (Option Value)} {v : Value} (hi : i < n) (h : kg_lg ls i = some v) : (i, kg_cv G v) ∈ kg_cl G n ls :=
  List.mem_filterMap.mpr ⟨i, List.mem_range.mpr hi, by rw [h]; rfl⟩
theorem kg_cl_of {G : kg_G} {n : Nat} {ls : List (Option Value)} {q : Nat × Value} (h : q ∈ kg_cl G n ls) : ∃ v, q.1 < n ∧ kg_lg ls q.1 = some v ∧ q.2 = kg_cv G v := by
  obtain ⟨i, hi, h⟩ := List.mem_filterMap.mp h
  cases hv : kg_lg ls i with
  | none => rw [hv] at h; cases h
  | some v =>
    rw [hv] at h
    cases h
    exact ⟨v, List.mem_range.mp hi, hv, rfl⟩
theorem kg_l_rd {G : kg_G} {A : Array Slot} {n i : Nat} {ls : List (Option Value)} {v : Value} (h : lv_has A n (kg_cl G n ls)) (hi : i < n) (hv : kg_lg ls i = some v) : A[i]? = some (.val (kg_cv G v)) := h.2.2 _ (kg_cl_in hi hv)
theorem kg_l_wr {G : kg_G} {A : Array Slot} {n i : Nat} {ls : List (Option Value)} {v : Value} (h : lv_has A n ((i, kg_cv G v) :: (kg_cl G n ls).filter (fun q => !(q.1 == i) && !(q.1 + 1 == i && q.2.category == 2)))) : lv_has A n (kg_cl G n (kg_ls ls i v)) := by
  refine ⟨h.1, h.2.1, fun q hq => ?_⟩
  obtain ⟨v2, h1, h2, h3⟩ := kg_cl_of hq
  obtain ⟨j, qv⟩ := q
  dsimp only at h1 h2 h3
  subst h3
  rcases kg_lg_ls _ _ _ _ _ h2 with ⟨a, e⟩ | ⟨a, e⟩
  · subst a; subst e
    exact h.2.2 (_, kg_cv G v2) List.mem_cons_self
  · refine h.2.2 (j, kg_cv G v2) (List.mem_cons_of_mem _ (List.mem_filter.mpr ⟨kg_cl_in h1 e, ?_⟩))
    simp [a, kg_cat]
/-- slots that the places below n take -/
def kg_zs (p : Nat) : Nat := if (kg_kd p).1 = 4 then kg_nf (kg_kd p).2 else (kg_kd p).2
def kg_sz : Nat → Nat
  | 0 => 0
  | n + 1 => kg_sz n + kg_zs n
theorem kg_sz_mono {a b : Nat} (h : a ≤ b) : kg_sz a ≤ kg_sz b := by
  induction h with
  | refl => exact Nat.le_refl _
  | step _ ih => exact Nat.le_trans ih (Nat.le_add_right _ _)
def kg_tys (cA : Nat → ClassId) : List (ClassId × FieldType) := [(cA 0, .int), (cA 1, .boolean), (cA 2, .char), (cA 3, .object "KeyGraves$State")]
def kg_nest : List (String × Nat × MethodName) := [("KeyGraves$State", 28, yX1_init), ("KeyGraves$State", 38, yX2_init), ("KeyGraves$State", 45, yX0_init), ("KeyGraves", 33, yX3_init), ("KeyGraves$State", 75, yX5_place), ("KeyGraves$State", 110, yX5_pairPlace)]
/-- what is true of every state's tables -/
def kg_Inv (G : kg_G) (U : State) : Prop := va_K G.2.2.1 vwCl (kg_tys G.2.2.2.1) U ∧ (∀ q ∈ kg_nest, va_Nw (.methodLinkNest q.1 q.2.1 q.2.2 "KeyGraves") U) ∧ va_Nw (.fieldLinkNest "KeyGraves$State" 56 "KeyGraves" "FIRST_SETTINGS" "[I" "KeyGraves") U ∧ va_AO "KeyGraves$State" U
theorem kg_Inv.moved {G : kg_G} {s U : State} (hW : s.WarmedH U.vm) (h : kg_Inv G s) : kg_Inv G U :=
  ⟨va_K.moved hW.alike h.1, fun q hq => va_Nw.warmM hW (h.2.1 q hq), va_Nw.warmF hW h.2.2.1, va_AO.moved hW.alike h.2.2.2⟩
theorem kg_Inv.same {G : kg_G} {s U : State} (hv : s.vm = U.vm) (h : kg_Inv G s) : kg_Inv G U :=
  ⟨va_K.moved (by rw [hv]; exact Vm.Alike.refl _) h.1, fun q hq => va_Nw.same rfl hv (h.2.1 q hq), va_Nw.same rfl hv h.2.2.1, va_AO.moved (by rw [hv]; exact Vm.Alike.refl _) h.2.2.2⟩
def kg_sv (p j : Nat) : Int32 := match p with
  | 1001 => (match j with | 0 => 1 | 1 => 1 | 2 => 1 | _ => 0)
  | 1002 => (match j with | 0 => 4 | 1 => 4 | 2 => 500 | _ => 1)
  | _ => (match j with | 0 => 2 | 1 => 2 | 2 => 50 | 3 => 0 | _ => 1)
def kg_sn (p : Nat) : String := match p with | 1001 => "LEAST_SETTINGS" | 1002 => "GREATEST_SETTINGS" | _ => "FIRST_SETTINGS"
/-- the statics and the script, in a heap that agrees with the start below the first address -/
def kg_St (G : kg_G) (U : State) (H : Heap) : Prop :=
  (∀ p, p ∈ [1001, 1002, 1003] → va_Z "KeyGraves" (kg_sn p) "[I" (.ref (G.2.2.2.2.1 (p - 1000))) (kg_A G) U H ∧ va_T .int (G.2.2.2.2.1 (p - 1000)) 5 (fun j => .int (kg_sv p j)) (kg_A G) U H)
  ∧ va_X (G.2.2.2.2.1 0) G.2.2.2.2.2.1 G.2.2.2.2.2.2 U H ∧ G.2.2.2.2.1 0 < kg_b G
theorem kg_St.moved {G : kg_G} {s U : State} {H : Heap} (hW : s.vm.Alike U.vm) (h : kg_St G s H) : kg_St G U H :=
  ⟨fun p hp => ⟨va_Z.moved hW (h.1 p hp).1, va_T.moved hW (h.1 p hp).2⟩, va_X.moved hW h.2.1, h.2.2⟩
theorem kg_St.kept {G : kg_G} {U : State} {H H1 : Heap} (hb : kg_b G ≤ H.size) (hq : ∀ a : Nat, a < H.size → ¬ kg_A G a → H1[a]? = H[a]?) (h : kg_St G U H) : kg_St G U H1 :=
  ⟨fun p hp => ⟨va_Z.kept (h.1 p hp).1 hq, va_T.kept (h.1 p hp).2 hq⟩, va_X.kept h.2.1 (hq _ (Nat.lt_of_lt_of_le h.2.2 hb) (Nat.not_le.mpr h.2.2)), h.2.2⟩
def kg_WH (G : kg_G) (w : kg_W) (M : kg_M) (H : Heap) : Prop := (w.1 < 129 → H.size = kg_b G + w.1) ∧ va_P G.2.2.1 vwCl (kg_wl (kg_b G) G.2.2.2.1 w M) H
theorem kg_wl_at {b : Nat} {cA : Nat → ClassId} {w : kg_W} {M : kg_M} {p : Nat} (h : p < w.1) : (kg_wl b cA w M)[p]? = some (b + p, kg_ce b cA w M p) := by
  simp [kg_wl, h]
theorem kg_wl_of {b : Nat} {cA : Nat → ClassId} {w : kg_W} {M : kg_M} {p : Nat} {q : Nat × va_E} (h : (kg_wl b cA w M)[p]? = some q) : p < w.1 ∧ q = (b + p, kg_ce b cA w M p) := by
  by_cases hp : p < w.1
  · rw [kg_wl_at hp] at h
    exact ⟨hp, (Option.some.inj h).symm⟩
  · simp [kg_wl, hp] at h
theorem kg_dis (G : kg_G) (w : kg_W) (M : kg_M) : va_D (kg_A G) (kg_wl (kg_b G) G.2.2.2.1 w M) := by
  refine ⟨fun i j p q hi hj hpq => ?_, fun k q hk => ?_⟩
  · rw [(kg_wl_of hi).2, (kg_wl_of hj).2] at hpq
    dsimp only at hpq
    omega
  · rw [(kg_wl_of hk).2]
    exact Nat.le_add_right _ _
theorem kg_wl_set {b : Nat} {cA : Nat → ClassId} {w w' : kg_W} {M M' : kg_M} {p : Nat} {e : va_E} (hw : w'.1 = w.1) (he : e = kg_ce b cA w' M' p) (ho : ∀ q, q ≠ p → kg_ce b cA w' M' q = kg_ce b cA w M q) : (kg_wl b cA w M).set p (b + p, e) = kg_wl b cA w' M' := by
  apply List.ext_getElem?
  intro i
  rw [List.getElem?_set]
  by_cases h : p = i
  · subst h
    rw [if_pos rfl]
    by_cases hp : p < w.1
    · rw [kg_wl_at (by omega), he, if_pos (by simp [kg_wl, hp])]
    · simp [kg_wl, hp, hw]
  · rw [if_neg h]
    by_cases hp : i < w.1
    · rw [kg_wl_at hp, kg_wl_at (by omega), ho i (Ne.symm h)]
    · simp [kg_wl, hp, hw]
def kg_wr (M : kg_M) (p j : Nat) (v : Int32) : kg_M := fun q => if q = p then (fun i => if i = j then v else M p i) else M q
def kg_wrr (w : kg_W) (p j r : Nat) : kg_W := (w.1, fun q => if q = p then (fun i => if i = j then r else w.2 p i) else w.2 q)
theorem kg_wr_ne {M : kg_M} {p j q : Nat} {v : Int32} (h : q ≠ p) : kg_wr M p j v q = M q := by simp [kg_wr, h]
theorem kg_wr_eq (M : kg_M) (p j : Nat) (v : Int32) : kg_wr M p j v p j = v := by simp [kg_wr]
theorem kg_wr_nj {M : kg_M} {p j i : Nat} {v : Int32} (h : i ≠ j) : kg_wr M p j v p i = M p i := by simp [kg_wr, h]
theorem kg_ce_same {b : Nat} {cA : Nat → ClassId} {w w' : kg_W} {M M' : kg_M} {p : Nat} (hM : M' p = M p) (hR : w'.2 p = w.2 p) : kg_ce b cA w' M' p = kg_ce b cA w M p := by
  simp only [kg_ce, kg_fs, hM, hR]
theorem kg_WH_put {G : kg_G} {w w' : kg_W} {M M' : kg_M} {H H1 : Heap} {p : Nat} (hH : kg_WH G w M H) (hw : w'.1 = w.1) (hp : p < w.1) (z : H1.size = H.size) (oq : ∀ q : Nat, q ≠ kg_b G + p → H1[q]? = H[q]?) (he : va_at G.2.2.1 vwCl (kg_b G + p, kg_ce (kg_b G) G.2.2.2.1 w' M' p) H1) (ho : ∀ q, q ≠ p → kg_ce (kg_b G) G.2.2.2.1 w' M' q = kg_ce (kg_b G) G.2.2.2.1 w M q) : kg_WH G w' M' H1 := by
  refine ⟨fun h => by rw [z, hw]; exact hH.1 (by omega), ?_⟩
  have h1 := hH.2.set (kg_dis G w M) (kg_wl_at hp) he oq
  rw [kg_wl_set hw rfl ho] at h1
  exact h1
theorem kg_fs_at {b : Nat} {w : kg_W} {M : kg_M} {p c k : Nat} (hk : k < kg_nf c) : (kg_fs b w M p c)[k]? = some (if kg_fr c k = true then va_rf (kg_ro b (w.2 p k)) else .int (M p k)) := by
  simp [kg_fs, hk]
theorem kg_fs_len {b : Nat} {w : kg_W} {M : kg_M} {p c : Nat} : (kg_fs b w M p c).length = kg_nf c := by simp [kg_fs]
theorem kg_fs_seti {b : Nat} {w : kg_W} {M : kg_M} {p c k : Nat} {x : Int32} (hf : kg_fr c k = false) : (kg_fs b w M p c).set k (.int x) = kg_fs b w (kg_wr M p k x) p c := by
  apply List.ext_getElem?
  intro i
  by_cases h : i < kg_nf c
  · by_cases hi : k = i
    · subst hi
      rw [List.getElem?_set_self (by rw [kg_fs_len]; exact h), kg_fs_at h]
      simp [hf, kg_wr]
    · rw [List.getElem?_set_ne hi, kg_fs_at h, kg_fs_at h, kg_wr_nj (Ne.symm hi)]
  · rw [List.getElem?_eq_none (by rw [List.length_set, kg_fs_len]; omega), List.getElem?_eq_none (by rw [kg_fs_len]; omega)]
theorem kg_fs_setr {b : Nat} {w : kg_W} {M : kg_M} {p c k r : Nat} (hf : kg_fr c k = true) : (kg_fs b w M p c).set k (va_rf (kg_ro b r)) = kg_fs b (kg_wrr w p k r) M p c := by
  apply List.ext_getElem?
  intro i
  by_cases h : i < kg_nf c
  · by_cases hi : k = i
    · subst hi
      rw [List.getElem?_set_self (by rw [kg_fs_len]; exact h), kg_fs_at h]
      simp [hf, kg_wrr]
    · rw [List.getElem?_set_ne hi, kg_fs_at h, kg_fs_at h]
      simp [kg_wrr, Ne.symm hi]
  · rw [List.getElem?_eq_none (by rw [List.length_set, kg_fs_len]; omega), List.getElem?_eq_none (by rw [kg_fs_len]; omega)]
theorem kg_ce_o {b : Nat} {cA : Nat → ClassId} {w : kg_W} {M : kg_M} {p c : Nat} (h : kg_kd p = (4, c)) : kg_ce b cA w M p = .inr (c, kg_fs b w M p c) := by simp [kg_ce, h]
theorem kg_ce_i {b : Nat} {cA : Nat → ClassId} {w : kg_W} {M : kg_M} {p t n : Nat} (h : kg_kd p = (t, n)) (ht : t < 3) : kg_ce b cA w M p = .inl (cA t, n, .inl (M p)) := by
  simp only [kg_ce, h]
  rw [if_neg (by omega), if_neg (by omega)]
theorem kg_ce_q {b : Nat} {cA : Nat → ClassId} {w : kg_W} {M : kg_M} {p n : Nat} (h : kg_kd p = (3, n)) : kg_ce b cA w M p = .inl (cA 3, n, .inr (.inr (.inr (.inr (fun i => kg_ro b (w.2 p i)))))) := by simp [kg_ce, h]
theorem kg_wr_upd (M : kg_M) (p j : Nat) (v : Int32) : kg_wr M p j v p = upd (M p) j v := by
  funext i
  simp [kg_wr, upd]
theorem kg_ce_wr {b : Nat} {cA : Nat → ClassId} {w : kg_W} {M : kg_M} {p j q : Nat} {v : Int32} (h : q ≠ p) : kg_ce b cA w (kg_wr M p j v) q = kg_ce b cA w M q := kg_ce_same (kg_wr_ne h) rfl
theorem kg_ce_wrr {b : Nat} {cA : Nat → ClassId} {w : kg_W} {M : kg_M} {p j q r : Nat} (h : q ≠ p) : kg_ce b cA (kg_wrr w p j r) M q = kg_ce b cA w M q := kg_ce_same rfl (by simp [kg_wrr, h])
/-- the classes by number -/
def kg_C (c : Nat) : String := match c with | 0 => RX0 | 1 => RX1 | 2 => RX2 | 3 => RX3 | 4 => RX4 | 5 => RX5 | _ => RX6
def kg_F (c : Nat) : u_T := match c with | 0 => TX0 | 1 => TX1 | 2 => TX2 | 3 => TX3 | 4 => TX4 | 5 => TX5 | _ => TX6
def kg_ft (c : Nat) : Nat → FieldType := match c with | 0 => tyX0 | 1 => tyX1 | 2 => tyX2 | 3 => tyX3 | 4 => tyX4 | 5 => tyX5 | _ => tyX6
theorem kg_c7 {c : Nat} (h : c < 7) : c = 0 ∨ c = 1 ∨ c = 2 ∨ c = 3 ∨ c = 4 ∨ c = 5 ∨ c = 6 := by omega
theorem kg_F_cl {c : Nat} (h : c < 7) : vwCl[c]? = some (kg_C c, kg_F c, kg_nf c) := by
  rcases kg_c7 h with rfl | rfl | rfl | rfl | rfl | rfl | rfl <;> rfl
theorem kg_F_ty {c : Nat} (h : c < 7) : ∀ k, k < kg_nf c → parseFieldDescriptor (kg_F c k).2.2.1 = some (kg_ft c k) := by
  rcases kg_c7 h with rfl | rfl | rfl | rfl | rfl | rfl | rfl
  · exact tyX0_ok
  · exact tyX1_ok
  · exact tyX2_ok
  · exact tyX3_ok
  · exact tyX4_ok
  · exact tyX5_ok
  · exact tyX6_ok
theorem kg_F_nm {c : Nat} (h : c < 7) : ∀ a, a < kg_nf c → ∀ b, b < kg_nf c → a ≠ b → (kg_F c a).2.1 ≠ (kg_F c b).2.1 := by
  rcases kg_c7 h with rfl | rfl | rfl | rfl | rfl | rfl | rfl
  · exact nmX0
  · exact nmX1
  · exact nmX2
  · exact nmX3
  · exact nmX4
  · exact nmX5
  · exact nmX6
theorem kg_F_in0 {c : Nat} (h : c < 7) : ∀ w ∈ u_ws (kg_C c) (kg_F c) (kg_nf c), w ∈ lw_tbl := by
  rcases kg_c7 h with rfl | rfl | rfl | rfl | rfl | rfl | rfl
  · exact kg_in0
  · exact kg_in1
  · exact kg_in2
  · exact kg_in3
  · exact kg_in4
  · exact kg_in5
  · exact kg_in6
theorem kg_F_good {c : Nat} (h : c < 7) : (u_ws (kg_C c) (kg_F c) (kg_nf c)).all goodWord = true := by
  rcases kg_c7 h with rfl | rfl | rfl | rfl | rfl | rfl | rfl <;> decide +kernel
end
section
/-! THE ROWS: one lemma an instruction, over the abstract machine -/
def kg_T : List Cond := lw_tbl.filter goodWord
theorem kg_F_in {c : Nat} (h : c < 7) : ∀ w ∈ u_ws (kg_C c) (kg_F c) (kg_nf c), w ∈ kg_T := fun w hw => List.mem_filter.mpr ⟨kg_F_in0 h w hw, List.all_eq_true.mp (kg_F_good h) w hw⟩
abbrev kg_Xt : Type := Program → Env → Room → State → MethodId → Array Value → List Frame → Method → Code → (State → Prop) → Prop
/-- what a method's own words say, of any state that it starts in -/
def kg_Bs (G : kg_G) (own : String) (cc : ByteArray) (nL d : Nat) (ini : Bool) (N0 NX : Nat) (p : Program) (R : Room) (s : State) (m : MethodId) (args : Array Value) (meth : Method) (c : Code) : Prop :=
  p.tables.exec = Jvm.exec ∧ c.code = cc ∧ c.maxLocals = nL ∧ s.vm.findClass own = some m.cls ∧ (∀ w ∈ kg_T, w.before args s = true) ∧ kg_Inv G s ∧ kg_St G s s.heap ∧ kg_b G ≤ s.heap.size ∧ (d ≤ R.frames ∧ 30 * d + 24 ≤ R.locals) ∧ (NX - N0 ≤ R.cells ∧ kg_sz NX - kg_sz N0 ≤ R.slots) ∧ (ini = true → meth.name = "<init>")
def kg_B (G : kg_G) (X : kg_Xt) (own : String) (cc : ByteArray) (nL d : Nat) (ini : Bool) (N0 NX : Nat) : Prop :=
  ∀ p e R s m args below meth c Qf, X p e R s m args below meth c Qf → kg_Bs G own cc nL d ini N0 NX p R s m args meth c
def kg_V (G : kg_G) (X : kg_Xt) (nL N0 NX : Nat) (pc : Nat) (ls : List (Option Value)) (st : List Value) (w : kg_W) (M : kg_M) : Prop :=
  N0 ≤ w.1 → w.1 ≤ NX → ∀ p e R s m args below meth c Qf, X p e R s m args below meth c Qf → ∀ (H : Heap) (locs : List Loc) (A : Array Slot), kg_WH G w M H → va_S (kg_A G) s.heap H locs → lv_has A nL (kg_cl G nL ls) → W p G.1 e R s m args below meth c H locs (w.1 - N0) (kg_sz w.1 - kg_sz N0) Qf (F0 m pc A (st.map (kg_cv G)))
section
variable {G : kg_G} {X : kg_Xt} {own : String} {cc : ByteArray} {nL d : Nat} {ini : Bool} {N0 NX : Nat} {pc : Nat} {ls : List (Option Value)} {st : List Value} {w : kg_W} {M : kg_M}
theorem kg_r_const (hB : kg_B G X own cc nL d ini N0 NX) {a : Int} {x : Int32} {nx : Nat} (h : (nx = pc + 1 ∧ decode cc pc = .ok (.iconst a, 1) ∧ Int32.ofInt a = x) ∨ (nx = pc + 2 ∧ decode cc pc = .ok (.bipush a, 2) ∧ (Int8.ofInt a).toInt32 = x) ∨ (nx = pc + 3 ∧ decode cc pc = .ok (.sipush a, 3) ∧ (Int16.ofInt a).toInt32 = x))
    (k : kg_V G X nL N0 NX nx ls (.int x :: st) w M) : kg_V G X nL N0 NX pc ls st w M := by
  intro g1 g2 p e R s m args below meth c Qf hX H locs A hH hS hl
  obtain ⟨hx, hb, -⟩ := hB _ _ _ _ _ _ _ _ _ _ hX
  rcases h with ⟨rfl, hd, hv⟩ | ⟨rfl, hd, hv⟩ | ⟨rfl, hd, hv⟩
  · exact lv_iconst hx hb hd hv (k g1 g2 p e R s m args below meth c Qf hX H locs A hH hS hl)
  · exact lv_bipush hx hb hd hv (k g1 g2 p e R s m args below meth c Qf hX H locs A hH hS hl)
  · exact lv_sipush hx hb hd hv (k g1 g2 p e R s m args below meth c Qf hX H locs A hH hS hl)
theorem kg_r_ldc (hB : kg_B G X own cc nL d ini N0 NX) {i : Nat} {x : Int32} (hd : decode cc pc = .ok (.ldc i, 2)) (hc : Cond.constant own i x ∈ kg_T)
    (k : kg_V G X nL N0 NX (pc + 2) ls (.int x :: st) w M) : kg_V G X nL N0 NX pc ls st w M := by
  intro g1 g2 p e R s m args below meth c Qf hX H locs A hH hS hl
  obtain ⟨hx, hb, -, hown, hts, -⟩ := hB _ _ _ _ _ _ _ _ _ _ hX
  exact lv_ldc hx hb hown (hts _ hc) hd (k g1 g2 p e R s m args below meth c Qf hX H locs A hH hS hl)
theorem kg_r_iload (hB : kg_B G X own cc nL d ini N0 NX) {a : Nat} {x : Int32} {nx : Nat} (ha : a < nL) (h : (nx = pc + 1 ∧ ∃ f : Fin 4, (f : Nat) = a ∧ decode cc pc = .ok (.iload_n f, 1)) ∨ (nx = pc + 2 ∧ decode cc pc = .ok (.iload a, 2))) (hv : kg_lg ls a = some (.int x))
    (k : kg_V G X nL N0 NX nx ls (.int x :: st) w M) : kg_V G X nL N0 NX pc ls st w M := by
  intro g1 g2 p e R s m args below meth c Qf hX H locs A hH hS hl
  obtain ⟨hx, hb, -⟩ := hB _ _ _ _ _ _ _ _ _ _ hX
  rcases h with ⟨rfl, f, hf, hd⟩ | ⟨rfl, hd⟩
  · exact lv_iload_n hx hb hd hf (kg_l_rd hl ha hv) (k g1 g2 p e R s m args below meth c Qf hX H locs A hH hS hl)
  · exact lv_iload hx hb hd (kg_l_rd hl ha hv) (k g1 g2 p e R s m args below meth c Qf hX H locs A hH hS hl)
theorem kg_r_aload (hB : kg_B G X own cc nL d ini N0 NX) {a q : Nat} {nx : Nat} (ha : a < nL) (h : (nx = pc + 1 ∧ ∃ f : Fin 4, (f : Nat) = a ∧ decode cc pc = .ok (.aload_n f, 1)) ∨ (nx = pc + 2 ∧ decode cc pc = .ok (.aload a, 2))) (hv : kg_lg ls a = some (.ref q))
    (k : kg_V G X nL N0 NX nx ls (.ref q :: st) w M) : kg_V G X nL N0 NX pc ls st w M := by
  intro g1 g2 p e R s m args below meth c Qf hX H locs A hH hS hl
  obtain ⟨hx, hb, -⟩ := hB _ _ _ _ _ _ _ _ _ _ hX
  rcases h with ⟨rfl, f, hf, hd⟩ | ⟨rfl, hd⟩
  · exact lv_aload_n hx hb hd hf (kg_l_rd hl ha hv) (k g1 g2 p e R s m args below meth c Qf hX H locs A hH hS hl)
  · exact lv_aload hx hb hd (kg_l_rd hl ha hv) (k g1 g2 p e R s m args below meth c Qf hX H locs A hH hS hl)
theorem kg_r_istore (hB : kg_B G X own cc nL d ini N0 NX) {a : Nat} {x : Int32} {nx : Nat} (ha : a < nL) (h : (nx = pc + 1 ∧ ∃ f : Fin 4, (f : Nat) = a ∧ decode cc pc = .ok (.istore_n f, 1)) ∨ (nx = pc + 2 ∧ decode cc pc = .ok (.istore a, 2)))
    (k : kg_V G X nL N0 NX nx (kg_ls ls a (.int x)) st w M) : kg_V G X nL N0 NX pc ls (.int x :: st) w M := by
  intro g1 g2 p e R s m args below meth c Qf hX H locs A hH hS hl
  obtain ⟨hx, hb, -⟩ := hB _ _ _ _ _ _ _ _ _ _ hX
  rcases h with ⟨rfl, f, hf, hd⟩ | ⟨rfl, hd⟩
  · exact lv_istore_n hx hb hd hf hl ha rfl (fun A2 h2 => k g1 g2 p e R s m args below meth c Qf hX H locs A2 hH hS (kg_l_wr (v := .int x) h2))
  · exact lv_istore hx hb hd hl ha rfl (fun A2 h2 => k g1 g2 p e R s m args below meth c Qf hX H locs A2 hH hS (kg_l_wr (v := .int x) h2))
theorem kg_r_astore (hB : kg_B G X own cc nL d ini N0 NX) {a q : Nat} {nx : Nat} (ha : a < nL) (h : (nx = pc + 1 ∧ ∃ f : Fin 4, (f : Nat) = a ∧ decode cc pc = .ok (.astore_n f, 1)) ∨ (nx = pc + 2 ∧ decode cc pc = .ok (.astore a, 2)))
    (k : kg_V G X nL N0 NX nx (kg_ls ls a (.ref q)) st w M) : kg_V G X nL N0 NX pc ls (.ref q :: st) w M := by
  intro g1 g2 p e R s m args below meth c Qf hX H locs A hH hS hl
  obtain ⟨hx, hb, -⟩ := hB _ _ _ _ _ _ _ _ _ _ hX
  rcases h with ⟨rfl, f, hf, hd⟩ | ⟨rfl, hd⟩
  · exact lv_astore_n hx hb hd hf hl ha rfl (fun A2 h2 => k g1 g2 p e R s m args below meth c Qf hX H locs A2 hH hS (kg_l_wr (v := .ref q) h2))
  · exact lv_astore hx hb hd hl ha rfl (fun A2 h2 => k g1 g2 p e R s m args below meth c Qf hX H locs A2 hH hS (kg_l_wr (v := .ref q) h2))
theorem kg_r_iinc (hB : kg_B G X own cc nL d ini N0 NX) {a : Nat} {z : Int} {x y : Int32} (ha : a < nL) (hd : decode cc pc = .ok (.iinc a z, 3)) (hv : kg_lg ls a = some (.int x)) (hy : Int32.ofInt z = y)
    (k : kg_V G X nL N0 NX (pc + 3) (kg_ls ls a (.int (x + y))) st w M) : kg_V G X nL N0 NX pc ls st w M := by
  intro g1 g2 p e R s m args below meth c Qf hX H locs A hH hS hl
  obtain ⟨hx, hb, -⟩ := hB _ _ _ _ _ _ _ _ _ _ hX
  obtain ⟨i, hi⟩ := List.getElem?_of_mem (kg_cl_in (G := G) ha hv)
  subst hy
  exact lv_iinc hx hb hd hl hi rfl ha rfl (fun A2 h2 => k g1 g2 p e R s m args below meth c Qf hX H locs A2 hH hS (kg_l_wr (v := .int (x + Int32.ofInt z)) h2))
theorem kg_r_iadd (hB : kg_B G X own cc nL d ini N0 NX) {x y : Int32} (hd : decode cc pc = .ok (.iadd, 1)) (k : kg_V G X nL N0 NX (pc + 1) ls (.int (x + y) :: st) w M) : kg_V G X nL N0 NX pc ls (.int y :: .int x :: st) w M := by
  intro g1 g2 p e R s m args below meth c Qf hX H locs A hH hS hl
  obtain ⟨hx, hb, -⟩ := hB _ _ _ _ _ _ _ _ _ _ hX
  exact lv_iadd hx hb hd (k g1 g2 p e R s m args below meth c Qf hX H locs A hH hS hl)
theorem kg_r_isub (hB : kg_B G X own cc nL d ini N0 NX) {x y : Int32} (hd : decode cc pc = .ok (.isub, 1)) (k : kg_V G X nL N0 NX (pc + 1) ls (.int (x - y) :: st) w M) : kg_V G X nL N0 NX pc ls (.int y :: .int x :: st) w M := by
  intro g1 g2 p e R s m args below meth c Qf hX H locs A hH hS hl
  obtain ⟨hx, hb, -⟩ := hB _ _ _ _ _ _ _ _ _ _ hX
  exact lv_isub hx hb hd (k g1 g2 p e R s m args below meth c Qf hX H locs A hH hS hl)
theorem kg_r_imul (hB : kg_B G X own cc nL d ini N0 NX) {x y : Int32} (hd : decode cc pc = .ok (.imul, 1)) (k : kg_V G X nL N0 NX (pc + 1) ls (.int (x * y) :: st) w M) : kg_V G X nL N0 NX pc ls (.int y :: .int x :: st) w M := by
  intro g1 g2 p e R s m args below meth c Qf hX H locs A hH hS hl
  obtain ⟨hx, hb, -⟩ := hB _ _ _ _ _ _ _ _ _ _ hX
  exact lv_imul hx hb hd (k g1 g2 p e R s m args below meth c Qf hX H locs A hH hS hl)
theorem kg_r_iand (hB : kg_B G X own cc nL d ini N0 NX) {x y : Int32} (hd : decode cc pc = .ok (.iand, 1)) (k : kg_V G X nL N0 NX (pc + 1) ls (.int (x &&& y) :: st) w M) : kg_V G X nL N0 NX pc ls (.int y :: .int x :: st) w M := by
  intro g1 g2 p e R s m args below meth c Qf hX H locs A hH hS hl
  obtain ⟨hx, hb, -⟩ := hB _ _ _ _ _ _ _ _ _ _ hX
  exact lv_iand hx hb hd (k g1 g2 p e R s m args below meth c Qf hX H locs A hH hS hl)
theorem kg_r_irem (hB : kg_B G X own cc nL d ini N0 NX) {x y : Int32} (hd : decode cc pc = .ok (.irem, 1)) (hy : ¬ y = 0) (k : kg_V G X nL N0 NX (pc + 1) ls (.int (x - x / y * y) :: st) w M) : kg_V G X nL N0 NX pc ls (.int y :: .int x :: st) w M := by
  intro g1 g2 p e R s m args below meth c Qf hX H locs A hH hS hl
  obtain ⟨hx, hb, -⟩ := hB _ _ _ _ _ _ _ _ _ _ hX
  exact lv_irem hx hb hd hy (k g1 g2 p e R s m args below meth c Qf hX H locs A hH hS hl)
theorem kg_r_i2c (hB : kg_B G X own cc nL d ini N0 NX) {x : Int32} (hd : decode cc pc = .ok (.i2c, 1)) (k : kg_V G X nL N0 NX (pc + 1) ls (.int (x.toUInt32 % 65536).toInt32 :: st) w M) : kg_V G X nL N0 NX pc ls (.int x :: st) w M := by
  intro g1 g2 p e R s m args below meth c Qf hX H locs A hH hS hl
  obtain ⟨hx, hb, -⟩ := hB _ _ _ _ _ _ _ _ _ _ hX
  exact lv_i2c hx hb hd rfl (k g1 g2 p e R s m args below meth c Qf hX H locs A hH hS hl)
theorem kg_r_dup (hB : kg_B G X own cc nL d ini N0 NX) {v : Value} (hd : decode cc pc = .ok (.dup, 1)) (k : kg_V G X nL N0 NX (pc + 1) ls (v :: v :: st) w M) : kg_V G X nL N0 NX pc ls (v :: st) w M := by
  intro g1 g2 p e R s m args below meth c Qf hX H locs A hH hS hl
  obtain ⟨hx, hb, -⟩ := hB _ _ _ _ _ _ _ _ _ _ hX
  exact lv_dup hx hb hd (kg_cat G v) (k g1 g2 p e R s m args below meth c Qf hX H locs A hH hS hl)
theorem kg_r_dup2 (hB : kg_B G X own cc nL d ini N0 NX) {v u : Value} (hd : decode cc pc = .ok (.dup2, 1)) (k : kg_V G X nL N0 NX (pc + 1) ls (v :: u :: v :: u :: st) w M) : kg_V G X nL N0 NX pc ls (v :: u :: st) w M := by
  intro g1 g2 p e R s m args below meth c Qf hX H locs A hH hS hl
  obtain ⟨hx, hb, -⟩ := hB _ _ _ _ _ _ _ _ _ _ hX
  exact lv_dup2_11 hx hb hd (kg_cat G v) (kg_cat G u) (k g1 g2 p e R s m args below meth c Qf hX H locs A hH hS hl)
theorem kg_r_pop (hB : kg_B G X own cc nL d ini N0 NX) {v : Value} (hd : decode cc pc = .ok (.pop, 1)) (k : kg_V G X nL N0 NX (pc + 1) ls st w M) : kg_V G X nL N0 NX pc ls (v :: st) w M := by
  intro g1 g2 p e R s m args below meth c Qf hX H locs A hH hS hl
  obtain ⟨hx, hb, -⟩ := hB _ _ _ _ _ _ _ _ _ _ hX
  exact lv_pop hx hb hd (kg_cat G v) (k g1 g2 p e R s m args below meth c Qf hX H locs A hH hS hl)
theorem kg_r_goto (hB : kg_B G X own cc nL d ini N0 NX) {off : Int} {tgt : Nat} (hd : decode cc pc = .ok (.goto off, 3)) (ht : (pc : Int) + off = (tgt : Int)) (k : kg_V G X nL N0 NX tgt ls st w M) : kg_V G X nL N0 NX pc ls st w M := by
  intro g1 g2 p e R s m args below meth c Qf hX H locs A hH hS hl
  obtain ⟨hx, hb, -⟩ := hB _ _ _ _ _ _ _ _ _ _ hX
  exact lv_goto hx hb hd ht (k g1 g2 p e R s m args below meth c Qf hX H locs A hH hS hl)
def kg_cond (a : Nat) : Jvm.ClassFile.Cond := match a with | 0 => .eq | 1 => .ne | 2 => .lt | 3 => .ge | 4 => .gt | _ => .le
/-- x ? y by a condition's number -/
def kg_cmp (a : Nat) (x y : Int32) : Prop := match a with | 0 => x = y | 1 => ¬ x = y | 2 => x < y | 3 => y ≤ x | 4 => y < x | _ => x ≤ y
theorem kg_r_icmp (hB : kg_B G X own cc nL d ini N0 NX) {a : Nat} {off : Int} {tgt : Nat} {x y : Int32} (hd : decode cc pc = .ok (.if_icmp (kg_cond a) off, 3)) (ht : (pc : Int) + off = (tgt : Int))
    (kt : kg_cmp a x y → kg_V G X nL N0 NX tgt ls st w M) (kf : ¬ kg_cmp a x y → kg_V G X nL N0 NX (pc + 3) ls st w M) : kg_V G X nL N0 NX pc ls (.int y :: .int x :: st) w M := by
  intro g1 g2 p e R s m args below meth c Qf hX H locs A hH hS hl
  obtain ⟨hx, hb, -⟩ := hB _ _ _ _ _ _ _ _ _ _ hX
  have kt := fun h => kt h g1 g2 p e R s m args below meth c Qf hX H locs A hH hS hl
  have kf := fun h => kf h g1 g2 p e R s m args below meth c Qf hX H locs A hH hS hl
  match a, hd, kt, kf with
  | 0, hd, kt, kf => exact lv_icmp_eq hx hb hd ht kt kf
  | 1, hd, kt, kf => exact lv_icmp_ne hx hb hd ht kt (fun h => kf (fun q => q h))
  | 2, hd, kt, kf => exact lv_icmp_lt hx hb hd ht kt kf
  | 3, hd, kt, kf => exact lv_icmp_ge hx hb hd ht kt kf
  | 4, hd, kt, kf => exact lv_icmp_gt hx hb hd ht kt kf
  | n + 5, hd, kt, kf => exact lv_icmp_le hx hb hd ht kt kf
theorem kg_r_if (hB : kg_B G X own cc nL d ini N0 NX) {a : Nat} {off : Int} {tgt : Nat} {x : Int32} (hd : decode cc pc = .ok (.ifCond (kg_cond a) off, 3)) (ht : (pc : Int) + off = (tgt : Int))
    (kt : kg_cmp a x 0 → kg_V G X nL N0 NX tgt ls st w M) (kf : ¬ kg_cmp a x 0 → kg_V G X nL N0 NX (pc + 3) ls st w M) : kg_V G X nL N0 NX pc ls (.int x :: st) w M := by
  intro g1 g2 p e R s m args below meth c Qf hX H locs A hH hS hl
  obtain ⟨hx, hb, -⟩ := hB _ _ _ _ _ _ _ _ _ _ hX
  have kt := fun h => kt h g1 g2 p e R s m args below meth c Qf hX H locs A hH hS hl
  have kf := fun h => kf h g1 g2 p e R s m args below meth c Qf hX H locs A hH hS hl
  match a, hd, kt, kf with
  | 0, hd, kt, kf => exact lv_if_eq hx hb hd ht kt kf
  | 1, hd, kt, kf => exact lv_if_ne hx hb hd ht kt (fun h => kf (fun q => q h))
  | 2, hd, kt, kf => exact lv_if_lt hx hb hd ht kt kf
  | 3, hd, kt, kf => exact lv_if_ge hx hb hd ht kt kf
  | 4, hd, kt, kf => exact lv_if_gt hx hb hd ht kt kf
  | n + 5, hd, kt, kf => exact lv_if_le hx hb hd ht kt kf
end
end
section
/-! ROWS of fields and arrays -/
section
variable {G : kg_G} {X : kg_Xt} {own : String} {cc : ByteArray} {nL d : Nat} {ini : Bool} {N0 NX : Nat} {pc : Nat} {ls : List (Option Value)} {st : List Value} {w : kg_W} {M : kg_M}
theorem kg_r_geti (hB : kg_B G X own cc nL d ini N0 NX) {p c k i : Nat} (hp : p < 1000) (hpw : p < w.1) (hc : c < 7) (hk : k < kg_nf c) (hkd : kg_kd p = (4, c)) (hf : kg_fr c k = false) (hln : Cond.fieldLink own i (kg_F c k).1 (kg_F c k).2.1 (kg_F c k).2.2.1 ∈ kg_T) (hd : decode cc pc = .ok (.getfield i, 3))
    (kk : kg_V G X nL N0 NX (pc + 3) ls (.int (M p k) :: st) w M) : kg_V G X nL N0 NX pc ls (.ref p :: st) w M := by
  intro g1 g2 p' e R s m args below meth c' Qf hX H locs A hH hS hl
  obtain ⟨hx, hb, -, hown, hts, hI, -⟩ := hB _ _ _ _ _ _ _ _ _ _ hX
  rw [List.map_cons, kg_cvref G hp]
  refine va_get hx hb hts (kg_F_in hc) hown hI.1 hH.2 p (fs := kg_fs (kg_b G) w M p c) ?_ (kg_F_cl hc) k hk (hts _ hln) (fun _ h9 => h9) (v := .int (M p k)) ?_ hd (kk g1 g2 p' e R s m args below meth c' Qf hX H locs A hH hS hl)
  · rw [kg_wl_at hpw, kg_ce_o hkd]
  · rw [kg_fs_at hk, hf]; rfl
theorem kg_r_getr (hB : kg_B G X own cc nL d ini N0 NX) {p c k i q : Nat} (hp : p < 1000) (hpw : p < w.1) (hc : c < 7) (hk : k < kg_nf c) (hkd : kg_kd p = (4, c)) (hf : kg_fr c k = true) (hln : Cond.fieldLink own i (kg_F c k).1 (kg_F c k).2.1 (kg_F c k).2.2.1 ∈ kg_T) (hq : w.2 p k = q) (hq0 : q ≠ 0) (hq1 : q < 1000) (hd : decode cc pc = .ok (.getfield i, 3))
    (kk : kg_V G X nL N0 NX (pc + 3) ls (.ref q :: st) w M) : kg_V G X nL N0 NX pc ls (.ref p :: st) w M := by
  intro g1 g2 p' e R s m args below meth c' Qf hX H locs A hH hS hl
  obtain ⟨hx, hb, -, hown, hts, hI, -⟩ := hB _ _ _ _ _ _ _ _ _ _ hX
  rw [List.map_cons, kg_cvref G hp]
  refine va_get hx hb hts (kg_F_in hc) hown hI.1 hH.2 p (fs := kg_fs (kg_b G) w M p c) ?_ (kg_F_cl hc) k hk (hts _ hln) (fun _ h9 => h9) (v := kg_cv G (.ref q)) ?_ hd (kk g1 g2 p' e R s m args below meth c' Qf hX H locs A hH hS hl)
  · rw [kg_wl_at hpw, kg_ce_o hkd]
  · rw [kg_fs_at hk, hf, hq, kg_cvref G hq1]
    simp [kg_ro, hq0, va_rf]
/-- a store into a field: the common part -/
theorem kg_r_put (hB : kg_B G X own cc nL d ini N0 NX) {p c k i : Nat} {v : Value} {w' : kg_W} {M' : kg_M} (hp : p < 1000) (hpw : p < w.1) (hc : c < 7) (hk : k < kg_nf c) (hkd : kg_kd p = (4, c)) (hln : Cond.fieldLink own i (kg_F c k).1 (kg_F c k).2.1 (kg_F c k).2.2.1 ∈ kg_T) (hfin : (kg_F c k).2.2.2 = false ∨ (ini = true ∧ (kg_F c k).1 = own)) (hd : decode cc pc = .ok (.putfield i, 3))
    (hn : narrow (kg_ft c k) (kg_cv G v) = kg_cv G v) (hfit : fits (kg_ft c k) (kg_cv G v) = true) (hw : w'.1 = w.1) (hset : (kg_fs (kg_b G) w M p c).set k (kg_cv G v) = kg_fs (kg_b G) w' M' p c) (ho : ∀ q, q ≠ p → kg_ce (kg_b G) G.2.2.2.1 w' M' q = kg_ce (kg_b G) G.2.2.2.1 w M q)
    (kk : kg_V G X nL N0 NX (pc + 3) ls st w' M') : kg_V G X nL N0 NX pc ls (v :: .ref p :: st) w M := by
  intro g1 g2 p' e R s m args below meth c' Qf hX H locs A hH hS hl
  obtain ⟨hx, hb, -, hown, hts, hI, -, -, -, -, hini⟩ := hB _ _ _ _ _ _ _ _ _ _ hX
  rw [List.map_cons, List.map_cons, kg_cvref G hp]
  have hcl := kg_F_cl hc
  have hin := kg_F_in hc
  have hap := va_apart (own := own) hts hin (kg_ft c) (kg_F_ty hc) (kg_F_nm hc) hI.1 hcl
  obtain ⟨r, h1, cell, q1, q2, q3, q4⟩ := hH.2 p (kg_b G + p, .inr (c, kg_fs (kg_b G) w M p c)) (by rw [kg_wl_at hpw, kg_ce_o hkd])
  have hr : r = (kg_C c, kg_F c, kg_nf c) := Option.some.inj (h1.symm.trans hcl)
  subst hr
  obtain ⟨hSl, hfc, kC, hkC, hkind⟩ := hI.1.1 c _ hcl
  obtain ⟨cf, kf, fi, f, hi, hsl⟩ := hSl k hk
  have hlay := hts _ (hin _ (u_in_lay hk))
  have hst := (u_facts hfc hkC (u_lays hts hin hk) hi).1
  have fin : ∀ (H1 : Heap) (loc : Loc), H1[kg_b G + p]? = some (cell.setSlot f.slot (kg_cv G v)) → H1.size = H.size → (∀ q, q ≠ kg_b G + p → H1[q]? = H[q]?) → loc.base = kg_b G + p → W p' G.1 e R s m args below meth c' H1 (locs ++ [loc]) (w.1 - N0) (kg_sz w.1 - kg_sz N0) Qf (F0 m (pc + 3) A (st.map (kg_cv G))) := by
    intro H1 loc e1 e2 e3 el
    have g1' := g1
    have g2' := g2
    rw [← hw] at g1' g2' ⊢
    rw [hsl] at e1
    refine kk g1' g2' p' e R s m args below meth c' Qf hX H1 _ A (kg_WH_put hH hw hpw e2 e3 ?_ ho) ⟨by rw [e2]; exact hS.1, fun q a1 a2 => by rw [e3 q (fun z => a2 (by rw [z]; exact Nat.le_add_right _ _))]; exact hS.2.1 q a1 a2, fun q hq => ?_⟩ hl
    · rw [kg_ce_o hkd, ← hset]
      exact ⟨_, hcl, t_OB.to (V := updV (vp_V (kg_fs (kg_b G) w M p c)) k (kg_cv G v)) ⟨_, e1, q2, q3, t_set q4 hap hk _⟩ (fun j _ => vp_updV_set (by rw [kg_fs_len]; exact hk) _ j)⟩
    · rcases List.mem_append.mp hq with h | h
      · exact hS.2.2 q h
      · rw [List.mem_singleton.mp h, el]; exact Nat.le_add_right _ _
  unfold u_lay at hlay
  rcases hfin with hfin | ⟨hi1, hdecl⟩
  · rw [if_neg (by rw [hfin]; decide)] at hlay
    have h6 := u_store hfc hkC hkind hlay hi (kg_F_ty hc k hk) hn hfit
    exact W.putK hx hb (f := f) ⟨hown, hts _ hln, ⟨_, _, _, hi⟩, hst⟩ (by rw [q2]; exact h6) q1 q3 (by rw [hsl]; exact k2_hasslot (q4 k hk)) rfl rfl hd fun H' e1 e2 e3 => fin H' _ e1 e2 e3 rfl
  · by_cases hfin : (kg_F c k).2.2.2 = true
    · rw [if_pos hfin] at hlay
      have hcf : m.cls = cf := by
        obtain ⟨_, _, c', _, _, _, -, -, hf', -, -, -, hown2, -⟩ := Cond.laysFinal_spec hlay
        have e1 : c' = cf := by have := hi.symm.trans hf'; simp at this; exact this.1.symm
        rw [hdecl] at hown2
        rw [← e1]; exact Option.some.inj (hown.symm.trans hown2)
      have h6 := u_fits hfc hkC hkind (Or.inr hlay) hi (kg_F_ty hc k hk) hn hfit
      exact W.putFinK hx hb hown (hts _ hln) hi hst hcf (hini hi1) (by rw [q2]; exact h6) q1 q3 (by rw [hsl]; exact k2_hasslot (q4 k hk)) rfl rfl hd fun H' e1 e2 e3 => fin H' _ e1 e2 e3 rfl
    · rw [if_neg hfin] at hlay
      have h6 := u_store hfc hkC hkind hlay hi (kg_F_ty hc k hk) hn hfit
      exact W.putK hx hb (f := f) ⟨hown, hts _ hln, ⟨_, _, _, hi⟩, hst⟩ (by rw [q2]; exact h6) q1 q3 (by rw [hsl]; exact k2_hasslot (q4 k hk)) rfl rfl hd fun H' e1 e2 e3 => fin H' _ e1 e2 e3 rfl
theorem kg_r_puti (hB : kg_B G X own cc nL d ini N0 NX) {p c k i : Nat} {x : Int32} (hp : p < 1000) (hpw : p < w.1) (hc : c < 7) (hk : k < kg_nf c) (hkd : kg_kd p = (4, c)) (hf : kg_fr c k = false) (hln : Cond.fieldLink own i (kg_F c k).1 (kg_F c k).2.1 (kg_F c k).2.2.1 ∈ kg_T) (hfin : (kg_F c k).2.2.2 = false ∨ (ini = true ∧ (kg_F c k).1 = own)) (hd : decode cc pc = .ok (.putfield i, 3))
    (hz : kg_ft c k = .int ∨ (kg_ft c k = .boolean ∧ (x = 0 ∨ x = 1)))
    (kk : kg_V G X nL N0 NX (pc + 3) ls st w (kg_wr M p k x)) : kg_V G X nL N0 NX pc ls (.int x :: .ref p :: st) w M := by
  refine kg_r_put hB hp hpw hc hk hkd hln hfin hd ?_ ?_ rfl (kg_fs_seti hf) (fun q hq => kg_ce_wr hq) kk
  · rcases hz with hz | ⟨hz, rfl | rfl⟩ <;> rw [hz] <;> rfl
  · rcases hz with hz | ⟨hz, rfl | rfl⟩ <;> rw [hz] <;> rfl
theorem kg_r_putr (hB : kg_B G X own cc nL d ini N0 NX) {p c k i q : Nat} (hp : p < 1000) (hpw : p < w.1) (hc : c < 7) (hk : k < kg_nf c) (hkd : kg_kd p = (4, c)) (hf : kg_fr c k = true) (hln : Cond.fieldLink own i (kg_F c k).1 (kg_F c k).2.1 (kg_F c k).2.2.1 ∈ kg_T) (hfin : (kg_F c k).2.2.2 = false ∨ (ini = true ∧ (kg_F c k).1 = own)) (hq0 : q ≠ 0) (hq1 : q < 1000) (hd : decode cc pc = .ok (.putfield i, 3))
    (hz : (∃ t, kg_ft c k = .array t) ∨ ∃ t, kg_ft c k = .object t)
    (kk : kg_V G X nL N0 NX (pc + 3) ls st (kg_wrr w p k q) M) : kg_V G X nL N0 NX pc ls (.ref q :: .ref p :: st) w M := by
  have e : kg_cv G (.ref q) = va_rf (kg_ro (kg_b G) q) := by rw [kg_cvref G hq1]; simp [kg_ro, hq0, va_rf]
  refine kg_r_put (w' := kg_wrr w p k q) hB hp hpw hc hk hkd hln hfin hd ?_ ?_ rfl (by rw [e]; exact kg_fs_setr hf) (fun q hq => kg_ce_wrr hq) kk
  · rw [kg_cvref G hq1]; rcases hz with ⟨t, hz⟩ | ⟨t, hz⟩ <;> rw [hz] <;> rfl
  · rw [kg_cvref G hq1]; rcases hz with ⟨t, hz⟩ | ⟨t, hz⟩ <;> rw [hz] <;> rfl
theorem kg_r_iald (hB : kg_B G X own cc nL d ini N0 NX) {p n j : Nat} (hp : p < 1000) (hpw : p < w.1) (hkd : kg_kd p = (0, n)) (hj : j < n) (hn : n < 2 ^ 31) (hd : decode cc pc = .ok (.iaload, 1))
    (kk : kg_V G X nL N0 NX (pc + 1) ls (.int (M p j) :: st) w M) : kg_V G X nL N0 NX pc ls (.int (nI j) :: .ref p :: st) w M := by
  intro g1 g2 p' e R s m args below meth c' Qf hX H locs A hH hS hl
  obtain ⟨hx, hb, -, hown, hts, hI, -⟩ := hB _ _ _ _ _ _ _ _ _ _ hX
  rw [List.map_cons, List.map_cons, kg_cvref G hp]
  refine va_iald hx hb hI.1 hH.2 p 0 (by rw [kg_wl_at hpw, kg_ce_i hkd (by omega)]) rfl (vp_in_nI hj hn) hd ?_
  rw [nI_clamp (by omega)]
  exact kk g1 g2 p' e R s m args below meth c' Qf hX H locs A hH hS hl
theorem kg_r_zald (hB : kg_B G X own cc nL d ini N0 NX) {p n j : Nat} (hp : p < 1000) (hpw : p < w.1) (hkd : kg_kd p = (1, n)) (hj : j < n) (hn : n < 2 ^ 31) (hd : decode cc pc = .ok (.baload, 1))
    (kk : kg_V G X nL N0 NX (pc + 1) ls (.int (M p j) :: st) w M) : kg_V G X nL N0 NX pc ls (.int (nI j) :: .ref p :: st) w M := by
  intro g1 g2 p' e R s m args below meth c' Qf hX H locs A hH hS hl
  obtain ⟨hx, hb, -, hown, hts, hI, -⟩ := hB _ _ _ _ _ _ _ _ _ _ hX
  rw [List.map_cons, List.map_cons, kg_cvref G hp]
  refine va_zald hx hb hI.1 hH.2 p 1 (by rw [kg_wl_at hpw, kg_ce_i hkd (by omega)]) rfl (vp_in_nI hj hn) hd ?_
  rw [nI_clamp (by omega)]
  exact kk g1 g2 p' e R s m args below meth c' Qf hX H locs A hH hS hl
theorem kg_r_cald (hB : kg_B G X own cc nL d ini N0 NX) {p n j : Nat} (hp : p < 1000) (hpw : p < w.1) (hkd : kg_kd p = (2, n)) (hj : j < n) (hn : n < 2 ^ 31) (hd : decode cc pc = .ok (.caload, 1))
    (kk : kg_V G X nL N0 NX (pc + 1) ls (.int (M p j) :: st) w M) : kg_V G X nL N0 NX pc ls (.int (nI j) :: .ref p :: st) w M := by
  intro g1 g2 p' e R s m args below meth c' Qf hX H locs A hH hS hl
  obtain ⟨hx, hb, -, hown, hts, hI, -⟩ := hB _ _ _ _ _ _ _ _ _ _ hX
  rw [List.map_cons, List.map_cons, kg_cvref G hp]
  refine va_cald hx hb hI.1 hH.2 p 2 (by rw [kg_wl_at hpw, kg_ce_i hkd (by omega)]) rfl (vp_in_nI hj hn) hd ?_
  rw [nI_clamp (by omega)]
  exact kk g1 g2 p' e R s m args below meth c' Qf hX H locs A hH hS hl
theorem kg_r_aald (hB : kg_B G X own cc nL d ini N0 NX) {p n j q : Nat} (hp : p < 1000) (hpw : p < w.1) (hkd : kg_kd p = (3, n)) (hj : j < n) (hn : n < 2 ^ 31) (hq : w.2 p j = q) (hq0 : q ≠ 0) (hq1 : q < 1000) (hd : decode cc pc = .ok (.aaload, 1))
    (kk : kg_V G X nL N0 NX (pc + 1) ls (.ref q :: st) w M) : kg_V G X nL N0 NX pc ls (.int (nI j) :: .ref p :: st) w M := by
  intro g1 g2 p' e R s m args below meth c' Qf hX H locs A hH hS hl
  obtain ⟨hx, hb, -, hown, hts, hI, -⟩ := hB _ _ _ _ _ _ _ _ _ _ hX
  rw [List.map_cons, List.map_cons, kg_cvref G hp]
  refine va_aldq hx hb hI.1 hH.2 p 3 (by rw [kg_wl_at hpw, kg_ce_q hkd]) rfl (vp_in_nI hj hn) hd ?_
  rw [nI_clamp (by omega), hq]
  have h9 := kk g1 g2 p' e R s m args below meth c' Qf hX H locs A hH hS hl
  rw [List.map_cons, kg_cvref G hq1] at h9
  simpa [kg_ro, hq0, va_rf] using h9
theorem kg_S_put {A : Nat → Prop} {H0 H H1 : Heap} {locs : List Loc} {b p k : Nat} (hS : va_S (fun q => b ≤ q) H0 H locs) (z : H1.size = H.size) (oq : ∀ q : Nat, q ≠ b + p → H1[q]? = H[q]?) : va_S (fun q => b ≤ q) H0 H1 (locs ++ [⟨b + p, k⟩]) := hS.put z oq (Nat.le_add_right b p)
theorem kg_r_iast (hB : kg_B G X own cc nL d ini N0 NX) {p n j : Nat} {x : Int32} (hp : p < 1000) (hpw : p < w.1) (hkd : kg_kd p = (0, n)) (hj : j < n) (hn : n < 2 ^ 31) (hd : decode cc pc = .ok (.iastore, 1))
    (kk : kg_V G X nL N0 NX (pc + 1) ls st w (kg_wr M p j x)) : kg_V G X nL N0 NX pc ls (.int x :: .int (nI j) :: .ref p :: st) w M := by
  intro g1 g2 p' e R s m args below meth c' Qf hX H locs A hH hS hl
  obtain ⟨hx, hb, -, hown, hts, hI, -⟩ := hB _ _ _ _ _ _ _ _ _ _ hX
  rw [List.map_cons, List.map_cons, List.map_cons, kg_cvref G hp]
  refine W.iast hx hb (hH.2 p (kg_b G + p, .inl (G.2.2.2.1 0, n, .inl (M p))) (by rw [kg_wl_at hpw, kg_ce_i hkd (by omega)])) ((hI.1.2 0 _ rfl).1 n (fun j => .int (M p j))) (fun q => by cases q) (by show ¬ (nI j < 0 ∨ (arrV _ _ _).slots.size ≤ _); rw [arrV_size]; exact vp_in_nI hj hn) rfl rfl hd fun H1 e1 z oq => ?_
  refine kk g1 g2 p' e R s m args below meth c' Qf hX H1 _ A (kg_WH_put hH rfl hpw z oq ?_ (fun q hq => kg_ce_wr hq)) (kg_S_put (A := kg_A G) hS z oq) hl
  rw [kg_ce_i hkd (by omega)]
  show H1[kg_b G + p]? = some (vp_cell _ _)
  rw [e1, vp_cell_i, vp_cell_i, arrV_store, kg_wr_upd, nI_clamp (by omega)]
  congr 2
  funext q
  by_cases hq : q = j <;> simp [updV, upd, hq]
theorem kg_r_zast (hB : kg_B G X own cc nL d ini N0 NX) {p n j : Nat} {x : Int32} (hp : p < 1000) (hpw : p < w.1) (hkd : kg_kd p = (1, n)) (hj : j < n) (hn : n < 2 ^ 31) (h01 : x = 0 ∨ x = 1) (hd : decode cc pc = .ok (.bastore, 1))
    (kk : kg_V G X nL N0 NX (pc + 1) ls st w (kg_wr M p j x)) : kg_V G X nL N0 NX pc ls (.int x :: .int (nI j) :: .ref p :: st) w M := by
  intro g1 g2 p' e R s m args below meth c' Qf hX H locs A hH hS hl
  obtain ⟨hx, hb, -, hown, hts, hI, -⟩ := hB _ _ _ _ _ _ _ _ _ _ hX
  rw [List.map_cons, List.map_cons, List.map_cons, kg_cvref G hp]
  refine W.zast hx hb (hH.2 p (kg_b G + p, .inl (G.2.2.2.1 1, n, .inl (M p))) (by rw [kg_wl_at hpw, kg_ce_i hkd (by omega)])) ((hI.1.2 1 _ rfl).1 n (fun j => .int (M p j))) (fun q => by cases q) (by show ¬ (nI j < 0 ∨ (arrV _ _ _).slots.size ≤ _); rw [arrV_size]; exact vp_in_nI hj hn) rfl rfl hd fun H1 e1 z oq => ?_
  refine kk g1 g2 p' e R s m args below meth c' Qf hX H1 _ A (kg_WH_put hH rfl hpw z oq ?_ (fun q hq => kg_ce_wr hq)) (kg_S_put (A := kg_A G) hS z oq) hl
  rw [kg_ce_i hkd (by omega)]
  have e2 : narrow .boolean (.int x) = .int x := by rcases h01 with rfl | rfl <;> rfl
  show H1[kg_b G + p]? = some (vp_cell _ _)
  rw [e1, e2, vp_cell_i, vp_cell_i, arrV_store, kg_wr_upd, nI_clamp (by omega)]
  congr 2
  funext q
  by_cases hq : q = j <;> simp [updV, upd, hq]
theorem kg_r_cast (hB : kg_B G X own cc nL d ini N0 NX) {p n j x : Nat} (hp : p < 1000) (hpw : p < w.1) (hkd : kg_kd p = (2, n)) (hj : j < n) (hn : n < 2 ^ 31) (h01 : x < 65536) (hd : decode cc pc = .ok (.castore, 1))
    (kk : kg_V G X nL N0 NX (pc + 1) ls st w (kg_wr M p j (nI x))) : kg_V G X nL N0 NX pc ls (.int (nI x) :: .int (nI j) :: .ref p :: st) w M := by
  intro g1 g2 p' e R s m args below meth c' Qf hX H locs A hH hS hl
  obtain ⟨hx, hb, -, hown, hts, hI, -⟩ := hB _ _ _ _ _ _ _ _ _ _ hX
  rw [List.map_cons, List.map_cons, List.map_cons, kg_cvref G hp]
  refine W.cast hx hb (hH.2 p (kg_b G + p, .inl (G.2.2.2.1 2, n, .inl (M p))) (by rw [kg_wl_at hpw, kg_ce_i hkd (by omega)])) ((hI.1.2 2 _ rfl).1 n (fun j => .int (M p j))) (fun q => by cases q) (by show ¬ (nI j < 0 ∨ (arrV _ _ _).slots.size ≤ _); rw [arrV_size]; exact vp_in_nI hj hn) rfl rfl hd fun H1 e1 z oq => ?_
  refine kk g1 g2 p' e R s m args below meth c' Qf hX H1 _ A (kg_WH_put hH rfl hpw z oq ?_ (fun q hq => kg_ce_wr hq)) (kg_S_put (A := kg_A G) hS z oq) hl
  rw [kg_ce_i hkd (by omega)]
  have e2 : narrow .char (.int (nI x)) = .int (nI x) := (pk_charN h01).1
  show H1[kg_b G + p]? = some (vp_cell _ _)
  rw [e1, e2, vp_cell_i, vp_cell_i, arrV_store, kg_wr_upd, nI_clamp (by omega)]
  congr 2
  funext q
  by_cases hq : q = j <;> simp [updV, upd, hq]
theorem kg_r_aast (hB : kg_B G X own cc nL d ini N0 NX) {p n j q : Nat} (hp : p < 1000) (hpw : p < w.1) (hkd : kg_kd p = (3, n)) (hj : j < n) (hn : n < 2 ^ 31) (hq0 : q ≠ 0) (hq1 : q < 1000) (hqw : q < w.1) (hqk : kg_kd q = (4, 4)) (hd : decode cc pc = .ok (.aastore, 1))
    (kk : kg_V G X nL N0 NX (pc + 1) ls st (kg_wrr w p j q) M) : kg_V G X nL N0 NX pc ls (.ref q :: .int (nI j) :: .ref p :: st) w M := by
  intro g1 g2 p' e R s m args below meth c' Qf hX H locs A hH hS hl
  obtain ⟨hx, hb, -, hown, hts, hI, -⟩ := hB _ _ _ _ _ _ _ _ _ _ hX
  rw [List.map_cons, List.map_cons, List.map_cons, kg_cvref G hp, kg_cvref G hq1]
  obtain ⟨r', hr', cellV, s1, s2, s3, -⟩ := hH.2 q (kg_b G + q, .inr (4, kg_fs (kg_b G) w M q 4)) (by rw [kg_wl_at hqw, kg_ce_o hqk])
  have hcls := (hI.1.1 4 _ (kg_F_cl (c := 4) (by omega))).2
  obtain ⟨kA, comp, k1, k2, k3, -⟩ := (hI.1.2 3 _ rfl).2
  have hcomp : comp = G.2.2.1.1 4 := Option.some.inj (k3.symm.trans hcls.1)
  subst hcomp
  obtain ⟨kC, hkC, -⟩ := hcls.2
  refine W.aast hx hb (hH.2 p (kg_b G + p, .inl (G.2.2.2.1 3, n, .inr (.inr (.inr (.inr (fun i => kg_ro (kg_b G) (w.2 p i))))))) (by rw [kg_wl_at hpw, kg_ce_q hkd])) (fun q h => by cases h) (fun h => by cases h) k1 k2 rfl hkC ⟨(nI_pos (by omega)), by show _ < (arrV _ _ _).slots.size; rw [arrV_size, nI_clamp (by omega)]; exact hj⟩ s1 (fun q h => by rw [s3] at h; cases h) (by rw [s2]; exact hkC) (by rw [s2]; exact va_assign hcls) rfl rfl hd fun H1 e1 z oq => ?_
  have g1' : N0 ≤ (kg_wrr w p j q).1 := g1
  refine kk g1 g2 p' e R s m args below meth c' Qf hX H1 _ A (kg_WH_put hH rfl hpw z oq ?_ (fun q hq => kg_ce_wrr hq)) (kg_S_put (A := kg_A G) hS z oq) hl
  rw [kg_ce_q hkd]
  show H1[kg_b G + p]? = some (vp_cell _ _)
  rw [e1, vp_cell_q, vp_cell_q, arrV_store, nI_clamp (by omega)]
  congr 2
  funext i
  by_cases hi : i = j <;> simp [updV, hi, kg_wrr, kg_ro, hq0, va_rf]
end
end
section
/-! ROWS of statics, the script, what is made, Math, arraycopy -/
theorem kg_cats (G : kg_G) (st : List Value) : ((st.map (kg_cv G)).map fun v => v.category).sum = st.length := by
  induction st with
  | nil => rfl
  | cons a l ih => rw [List.map_cons, List.map_cons, List.sum_cons, ih, kg_cat, List.length_cons]; omega
section
variable {G : kg_G} {X : kg_Xt} {own : String} {cc : ByteArray} {nL d : Nat} {ini : Bool} {N0 NX : Nat} {pc : Nat} {ls : List (Option Value)} {st : List Value} {w : kg_W} {M : kg_M}
theorem kg_cvst (G : kg_G) {p : Nat} (h : ¬ p < 1000) : kg_cv G (.ref p) = .ref (G.2.2.2.2.1 (p - 1000)) := by simp [kg_cv, h]
theorem kg_r_gets (hB : kg_B G X own cc nL d ini N0 NX) {p i : Nat} (hp : p ∈ [1001, 1002, 1003]) (hln : Cond.fieldLink own i "KeyGraves" (kg_sn p) "[I" ∈ kg_T ∨ (own = "KeyGraves$State" ∧ i = 56 ∧ p = 1003)) (hd : decode cc pc = .ok (.getstatic i, 3))
    (kk : kg_V G X nL N0 NX (pc + 3) ls (.ref p :: st) w M) : kg_V G X nL N0 NX pc ls st w M := by
  intro g1 g2 p' e R s m args below meth c' Qf hX H locs A hH hS hl
  obtain ⟨hx, hb, -, hown, hts, hI, hSt, -⟩ := hB _ _ _ _ _ _ _ _ _ _ hX
  have hp0 : ¬ p < 1000 := by simp at hp; omega
  have k2 := kk g1 g2 p' e R s m args below meth c' Qf hX H locs A hH hS hl
  rw [List.map_cons, kg_cvst G hp0] at k2
  rcases hln with hln | ⟨rfl, rfl, rfl⟩
  · exact va_gets hx hb (hSt.1 p hp).1 hS hown (hts _ hln) (fun _ h => h) hd k2
  · exact va_getsN hx hb (hSt.1 1003 hp).1 hS hown (va_Nw.use rfl hI.2.2.1) (fun _ h => h) hd k2
theorem kg_r_ilds (hB : kg_B G X own cc nL d ini N0 NX) {p j : Nat} (hp : p ∈ [1001, 1002, 1003]) (hj : j < 5) (hd : decode cc pc = .ok (.iaload, 1))
    (kk : kg_V G X nL N0 NX (pc + 1) ls (.int (kg_sv p j) :: st) w M) : kg_V G X nL N0 NX pc ls (.int (nI j) :: .ref p :: st) w M := by
  intro g1 g2 p' e R s m args below meth c' Qf hX H locs A hH hS hl
  obtain ⟨hx, hb, -, hown, hts, hI, hSt, -⟩ := hB _ _ _ _ _ _ _ _ _ _ hX
  have hp0 : ¬ p < 1000 := by simp at hp; omega
  rw [List.map_cons, List.map_cons, kg_cvst G hp0]
  exact va_ti hx hb (hSt.1 p hp).2 hS (vp_in_nI hj (by omega)) (by rw [nI_clamp (by omega)]; rfl) hd (kk g1 g2 p' e R s m args below meth c' Qf hX H locs A hH hS hl)
theorem kg_r_ildx (hB : kg_B G X own cc nL d ini N0 NX) {j : Nat} (hj : j < G.2.2.2.2.2.1) (hL : G.2.2.2.2.2.1 < 2 ^ 31) (hd : decode cc pc = .ok (.iaload, 1))
    (kk : kg_V G X nL N0 NX (pc + 1) ls (.int (G.2.2.2.2.2.2 j) :: st) w M) : kg_V G X nL N0 NX pc ls (.int (nI j) :: .ref 1000 :: st) w M := by
  intro g1 g2 p' e R s m args below meth c' Qf hX H locs A hH hS hl
  obtain ⟨hx, hb, -, hown, hts, hI, hSt, hbs, -⟩ := hB _ _ _ _ _ _ _ _ _ _ hX
  rw [List.map_cons, List.map_cons, kg_cvst G (by omega)]
  refine va_sld (b := G.2.2.2.2.1 0) hx hb hSt.2.1 (Nat.lt_of_lt_of_le hSt.2.2 hbs) (Nat.not_le.mpr hSt.2.2) hS (vp_in_nI hj hL) hd ?_
  rw [nI_clamp (by omega)]
  exact kk g1 g2 p' e R s m args below meth c' Qf hX H locs A hH hS hl
theorem kg_r_slen (hB : kg_B G X own cc nL d ini N0 NX) (hd : decode cc pc = .ok (.arraylength, 1))
    (kk : kg_V G X nL N0 NX (pc + 1) ls (.int (nI G.2.2.2.2.2.1) :: st) w M) : kg_V G X nL N0 NX pc ls (.ref 1000 :: st) w M := by
  intro g1 g2 p' e R s m args below meth c' Qf hX H locs A hH hS hl
  obtain ⟨hx, hb, -, hown, hts, hI, hSt, hbs, -⟩ := hB _ _ _ _ _ _ _ _ _ _ hX
  rw [List.map_cons, kg_cvst G (by omega)]
  exact va_slen (b := G.2.2.2.2.1 0) hx hb hSt.2.1 (Nat.lt_of_lt_of_le hSt.2.2 hbs) (Nat.not_le.mpr hSt.2.2) hS hd (kk g1 g2 p' e R s m args below meth c' Qf hX H locs A hH hS hl)
theorem kg_r_mmin (hB : kg_B G X own cc nL d ini N0 NX) {i : Nat} {x y : Int32} (hd0 : 1 ≤ d) (hst : st.length ≤ 8) (h1 : Cond.methodLink own i Lib.Math.min.name ∈ kg_T) (h2 : Cond.static Lib.Math.min.name ∈ kg_T) (h3 : Cond.initialized "java/lang/Math" ∈ kg_T) (h4 : Cond.code Lib.Math.min.name Lib.Math.min.code 2 (some .int) ∈ kg_T) (hd : decode cc pc = .ok (.invokestatic i, 3))
    (kk : kg_V G X nL N0 NX (pc + 3) ls (.int (if y < x then y else x) :: st) w M) : kg_V G X nL N0 NX pc ls (.int y :: .int x :: st) w M := by
  intro g1 g2 p' e R s m args below meth c' Qf hX H locs A hH hS hl
  obtain ⟨hx, hb, hml, hown, hts, hI, hSt, hbs, ⟨hf1, hf2⟩, ⟨hc1, hc2⟩, -⟩ := hB _ _ _ _ _ _ _ _ _ _ hX
  exact va_mmin hx hb (hml.trans hl.1.symm) hown (hts _ h1) (hts _ h2) (hts _ h3) (hts _ h4) (Nat.le_trans hd0 hf1) (by rw [kg_cats]; omega) (Nat.le_trans (Nat.sub_le_sub_right g2 _) hc1) (Nat.le_trans (Nat.sub_le_sub_right (kg_sz_mono g2) _) hc2) hd (kk g1 g2 p' e R s m args below meth c' Qf hX H locs A hH hS hl)
theorem kg_r_mmax (hB : kg_B G X own cc nL d ini N0 NX) {i : Nat} {x y : Int32} (hd0 : 1 ≤ d) (hst : st.length ≤ 8) (h1 : Cond.methodLink own i Lib.Math.max.name ∈ kg_T) (h2 : Cond.static Lib.Math.max.name ∈ kg_T) (h3 : Cond.initialized "java/lang/Math" ∈ kg_T) (h4 : Cond.code Lib.Math.max.name Lib.Math.max.code 2 (some .int) ∈ kg_T) (hd : decode cc pc = .ok (.invokestatic i, 3))
    (kk : kg_V G X nL N0 NX (pc + 3) ls (.int (if x < y then y else x) :: st) w M) : kg_V G X nL N0 NX pc ls (.int y :: .int x :: st) w M := by
  intro g1 g2 p' e R s m args below meth c' Qf hX H locs A hH hS hl
  obtain ⟨hx, hb, hml, hown, hts, hI, hSt, hbs, ⟨hf1, hf2⟩, ⟨hc1, hc2⟩, -⟩ := hB _ _ _ _ _ _ _ _ _ _ hX
  exact va_mmax hx hb (hml.trans hl.1.symm) hown (hts _ h1) (hts _ h2) (hts _ h3) (hts _ h4) (Nat.le_trans hd0 hf1) (by rw [kg_cats]; omega) (Nat.le_trans (Nat.sub_le_sub_right g2 _) hc1) (Nat.le_trans (Nat.sub_le_sub_right (kg_sz_mono g2) _) hc2) hd (kk g1 g2 p' e R s m args below meth c' Qf hX H locs A hH hS hl)
/-- a row of ints copied onto another, the first n -/
def kg_cpy (M : kg_M) (p q n : Nat) : kg_M := fun r => if r = q then (fun i => if i < n then M p i else M q i) else M r
theorem kg_r_copy (hB : kg_B G X own cc nL d ini N0 NX) {i p q n n0 n1 : Nat} (hw9 : ¬ w.1 < 129) (hd0 : 1 ≤ d) (hst : st.length ≤ 6) (h1 : Cond.methodLink own i arraycopyName ∈ kg_T) (h2 : Cond.native arraycopyName ∈ kg_T) (h3 : Cond.static arraycopyName ∈ kg_T) (h4 : Cond.initialized "java/lang/System" ∈ kg_T) (hp : p < 1000) (hpw : p < w.1) (hpk : kg_kd p = (0, n0)) (hq : q < 1000) (hqw : q < w.1) (hqk : kg_kd q = (0, n1)) (hn0 : n ≤ n0) (hn1 : n ≤ n1) (hn : n < 2 ^ 31) (hd : decode cc pc = .ok (.invokestatic i, 3))
    (kk : kg_V G X nL N0 NX (pc + 3) ls st w (kg_cpy M p q n)) : kg_V G X nL N0 NX pc ls (.int (nI n) :: .int (nI 0) :: .ref q :: .int (nI 0) :: .ref p :: st) w M := by
  intro g1 g2 p' e R s m args below meth c' Qf hX H locs A hH hS hl
  obtain ⟨hx, hb, hml, hown, hts, hI, hSt, hbs, ⟨hf1, hf2⟩, ⟨hc1, hc2⟩, -⟩ := hB _ _ _ _ _ _ _ _ _ _ hX
  simp only [List.map_cons]
  rw [kg_cvref G hp, kg_cvref G hq]
  refine va_copyi hx hb (hml.trans hl.1.symm) hown (hts _ h1) (hts _ h2) (hts _ h3) (hts _ h4) hI.1 hH.2 (kg_dis G w M) hS p q 0 0 (f := M p) (g := M q) (by rw [kg_wl_at hpw, kg_ce_i hpk (by omega)]) (by rw [kg_wl_at hqw, kg_ce_i hqk (by omega)]) rfl rfl rfl (sp := nI 0) (dp := nI 0) (n := nI n) (nI_pos (by omega)) (nI_pos (by omega)) (nI_pos hn) (by rw [nI_clamp (by omega), nI_clamp hn]; omega) (by rw [nI_clamp (by omega), nI_clamp hn]; omega) (fun _ _ => rfl) (Nat.le_trans hd0 hf1) (by rw [kg_cats]; simp [nativeFrameWords]; omega) hd (fun H1 locs1 hP1 _ hS1 => ?_)
  refine kk g1 g2 p' e R s m args below meth c' Qf hX H1 locs1 A ⟨fun h => absurd h hw9, ?_⟩ hS1 hl
  rw [← kg_wl_set (M := M) (w := w) (p := q) (e := .inl (G.2.2.2.1 0, n1, .inl (va_cpy (M p) (M q) (nI 0).toNatClampNeg (nI 0).toNatClampNeg (nI n).toNatClampNeg))) rfl ?_ (fun r hr => kg_ce_same (by simp [kg_cpy, hr]) rfl)]
  · exact hP1
  · rw [kg_ce_i hqk (by omega)]
    congr 4
    funext k
    rw [nI_clamp hn, nI_clamp (by omega)]
    by_cases hk : k < n <;> simp [va_cpy, kg_cpy, hk]
theorem kg_r_obj (hB : kg_B G X own cc nL d ini N0 NX) {i p : Nat} (hd0 : 1 ≤ d) (hst : st.length ≤ 8) (h1 : Cond.methodLink own i Lib.objectInit ∈ kg_T) (h2 : Cond.instanceMethod Lib.objectInit ∈ kg_T) (h3 : Cond.code Lib.objectInit ⟨#[0xb1]⟩ 1 none ∈ kg_T) (hd : decode cc pc = .ok (.invokespecial i, 3))
    (kk : kg_V G X nL N0 NX (pc + 3) ls st w M) : kg_V G X nL N0 NX pc ls (.ref p :: st) w M := by
  intro g1 g2 p' e R s m args below meth c' Qf hX H locs A hH hS hl
  obtain ⟨hx, hb, hml, hown, hts, hI, hSt, hbs, ⟨hf1, hf2⟩, ⟨hc1, hc2⟩, -⟩ := hB _ _ _ _ _ _ _ _ _ _ hX
  have k2 := kk g1 g2 p' e R s m args below meth c' Qf hX H locs A hH hS hl
  have hr := kg_cats G st
  refine W.objInit hx hb hown (hts _ h1) (hts _ h2) (hts _ h3) rfl (hl.1.trans hml.symm) (rest := st.map (kg_cv G)) (a := if p < 1000 then kg_b G + p else G.2.2.2.2.1 (p - 1000)) rfl hd (Nat.le_trans hd0 hf1) ?_ ?_
  · show 2 * 0 + _ + 12 ≤ _
    rw [hr]; omega
  · exact k2
/-- a cell is made: the next place -/
theorem kg_WH_new {w w' : kg_W} {M M' : kg_M} {H H1 : Heap} (hH : kg_WH G w M H) (h9 : w.1 < 129) (hw : w'.1 = w.1 + 1) (z : H1.size = H.size + 1) (oq : ∀ q : Nat, q < H.size → H1[q]? = H[q]?) (he : va_at G.2.2.1 vwCl (kg_b G + w.1, kg_ce (kg_b G) G.2.2.2.1 w' M' w.1) H1) (ho : ∀ q, q < w.1 → kg_ce (kg_b G) G.2.2.2.1 w' M' q = kg_ce (kg_b G) G.2.2.2.1 w M q) : kg_WH G w' M' H1 := by
  refine ⟨fun _ => by rw [z, hH.1 h9, hw]; omega, fun k q hk => ?_⟩
  obtain ⟨h1, h2⟩ := kg_wl_of hk
  subst h2
  by_cases hkw : k = w.1
  · subst hkw; exact he
  · have hlt : k < w.1 := by omega
    rw [ho k hlt]
    have h3 := hH.2 k _ (kg_wl_at hlt)
    exact h3.kept (oq _ h3.lt)
def kg_new (w : kg_W) (r : Nat → Nat) : kg_W := (w.1 + 1, fun q => if q = w.1 then r else w.2 q)
def kg_row (M : kg_M) (p : Nat) (f : Nat → Int32) : kg_M := fun q => if q = p then f else M q
theorem kg_ce_new {b : Nat} {cA : Nat → ClassId} {w : kg_W} {M : kg_M} {r : Nat → Nat} {f : Nat → Int32} {q : Nat} (h : q ≠ w.1) : kg_ce b cA (kg_new w r) (kg_row M w.1 f) q = kg_ce b cA w M q := kg_ce_same (by simp [kg_row, h]) (by simp [kg_new, h])
theorem kg_S_new {b : Nat} {H0 H H1 : Heap} {locs : List Loc} (hS : va_S (fun q => b ≤ q) H0 H locs) (z : H1.size = H.size + 1) (oq : ∀ q : Nat, q < H.size → H1[q]? = H[q]?) : va_S (fun q => b ≤ q) H0 H1 locs := ⟨by rw [z]; exact Nat.le_trans hS.1 (Nat.le_succ _), fun q a1 a2 => (oq q (Nat.lt_of_lt_of_le a1 hS.1)).trans (hS.2.1 q a1 a2), hS.2.2⟩
theorem kg_r_new (hB : kg_B G X own cc nL d ini N0 NX) {c i : Nat} (h9 : w.1 < 129) (hNX : w.1 + 1 ≤ NX) (hc : c < 7) (hkd : kg_kd w.1 = (4, c)) (h1 : Cond.classLink own i (kg_C c) ∈ kg_T) (h2 : Cond.instantiable (kg_C c) (kg_nf c) ∈ kg_T) (h3 : Cond.initialized (kg_C c) ∈ kg_T) (hdef : ∀ k, k < kg_nf c → defaultValue (kg_ft c k) = if kg_fr c k = true then .null else .int 0) (hd : decode cc pc = .ok (.new i, 3))
    (kk : kg_V G X nL N0 NX (pc + 3) ls (.ref w.1 :: st) (kg_new w (fun _ => 0)) (kg_row M w.1 (fun _ => 0))) : kg_V G X nL N0 NX pc ls st w M := by
  intro g1 g2 p' e R s m args below meth c' Qf hX H locs A hH hS hl
  obtain ⟨hx, hb, hml, hown, hts, hI, hSt, hbs, ⟨hf1, hf2⟩, ⟨hc1, hc2⟩, -⟩ := hB _ _ _ _ _ _ _ _ _ _ hX
  have hKn := hI.1.1 c _ (kg_F_cl hc)
  have zs : kg_zs w.1 = kg_nf c := by simp [kg_zs, hkd]
  have m0 := kg_sz_mono g1
  have m1 := kg_sz_mono hNX
  have e0 : kg_sz (w.1 + 1) = kg_sz w.1 + kg_nf c := by rw [kg_sz, zs]
  refine W.newcK hx hb hown (hts _ h1) (hts _ h2) (hts _ h3) rfl hd (by omega) (by omega) hKn.2.1 (hH.1 h9) fun H1 kC hkC e1 z1 o1 => ?_
  have g1' : N0 ≤ (kg_new w (fun _ => 0)).1 := Nat.le_succ_of_le g1
  have g2' : (kg_new w (fun _ => 0)).1 ≤ NX := hNX
  have hz : H1.size = H.size + 1 := by rw [z1, hH.1 h9]
  have ho : ∀ q : Nat, q < H.size → H1[q]? = H[q]? := fun q hq => o1 q (by rw [← hH.1 h9]; exact hq)
  have k2 := kk g1' g2' p' e R s m args below meth c' Qf hX H1 locs A (kg_WH_new hH h9 rfl hz ho ?_ (fun q hq => kg_ce_new (Nat.ne_of_lt hq))) (kg_S_new hS hz ho) hl
  · rw [List.map_cons, kg_cvref G (by omega), show (kg_new w (fun _ => 0)).1 = w.1 + 1 from rfl, e0, show w.1 + 1 - N0 = w.1 - N0 + 1 by omega, show kg_sz w.1 + kg_nf c - kg_sz N0 = kg_sz w.1 - kg_sz N0 + kg_nf c by omega] at k2
    exact k2
  · rw [kg_ce_o hkd]
    refine ⟨_, kg_F_cl hc, (u_born (kg_ft c) hts (kg_F_in hc) hKn hkC e1 (kg_F_ty hc)).to fun k hk => ?_⟩
    show defaultValue (kg_ft c k) = vp_V _ k
    rw [hdef k hk, vp_V, List.getD_eq_getElem?_getD, kg_fs_at hk]
    by_cases hf : kg_fr c k = true <;> simp [hf, kg_new, kg_row, kg_ro, va_rf]
theorem kg_r_newa (hB : kg_B G X own cc nL d ini N0 NX) {t n : Nat} {aty : ArrayType} {ty : FieldType} (h9 : w.1 < 129) (hNX : w.1 + 1 ≤ NX) (hkd : kg_kd w.1 = (t, n)) (ht : t < 3) (hty : newarray.typeOf aty = ty) (htt : (kg_tys G.2.2.2.1)[t]? = some (G.2.2.2.1 t, ty)) (hra : ∀ (U : State) (cA : ClassId), va_RA U cA ty → U.vm.findClass ("[" ++ ty.toString) = some cA) (hdv : defaultValue ty = .int 0) (hn : n < 2 ^ 20) (hcb : componentBytes ty ≤ 8) (h1 : Cond.arrayClass ty ∈ kg_T) (hd : decode cc pc = .ok (.newarray aty, 2))
    (kk : kg_V G X nL N0 NX (pc + 2) ls (.ref w.1 :: st) (kg_new w (fun _ => 0)) (kg_row M w.1 (fun _ => 0))) : kg_V G X nL N0 NX pc ls (.int (nI n) :: st) w M := by
  intro g1 g2 p' e R s m args below meth c' Qf hX H locs A hH hS hl
  obtain ⟨hx, hb, hml, hown, hts, hI, hSt, hbs, ⟨hf1, hf2⟩, ⟨hc1, hc2⟩, -⟩ := hB _ _ _ _ _ _ _ _ _ _ hX
  subst hty
  have zs : kg_zs w.1 = n := by simp only [kg_zs, hkd]; rw [if_neg (by omega)]
  have m0 := kg_sz_mono g1
  have m1 := kg_sz_mono hNX
  have e0 : kg_sz (w.1 + 1) = kg_sz w.1 + n := by rw [kg_sz, zs]
  have hb8 : n * componentBytes (newarray.typeOf aty) ≤ 2 ^ 20 * 8 := Nat.mul_le_mul (Nat.le_of_lt hn) hcb
  rw [List.map_cons]
  refine va_newaK hx hb (atype := aty) (hts _ h1) rfl hd rfl (nI_pos (by omega)) (nI_clamp (n := n) (by omega)) (by omega) (by omega) (by omega) (hH.1 h9) fun H1 cA e1 z1 o1 hAr hNm => ?_
  have hcA : cA = G.2.2.2.1 t := Option.some.inj (hNm.symm.trans (hra s _ (hI.1.2 t _ htt).2))
  subst hcA
  have g1' : N0 ≤ (kg_new w (fun _ => 0)).1 := Nat.le_succ_of_le g1
  have g2' : (kg_new w (fun _ => 0)).1 ≤ NX := hNX
  have hz : H1.size = H.size + 1 := by rw [z1, hH.1 h9]
  have ho : ∀ q : Nat, q < H.size → H1[q]? = H[q]? := fun q hq => o1 q (by rw [← hH.1 h9]; exact hq)
  have k2 := kk g1' g2' p' e R s m args below meth c' Qf hX H1 locs A (kg_WH_new hH h9 rfl hz ho ?_ (fun q hq => kg_ce_new (Nat.ne_of_lt hq))) (kg_S_new hS hz ho) hl
  · rw [List.map_cons, kg_cvref G (by omega), show (kg_new w (fun _ => 0)).1 = w.1 + 1 from rfl, e0, show w.1 + 1 - N0 = w.1 - N0 + 1 by omega, show kg_sz w.1 + n - kg_sz N0 = kg_sz w.1 - kg_sz N0 + n by omega] at k2
    exact k2
  · rw [kg_ce_i hkd ht]
    show H1[_]? = some (vp_cell _ _)
    rw [e1, vp_cell_i, hdv]
    simp [kg_row]
theorem kg_r_anew (hB : kg_B G X own cc nL d ini N0 NX) {i n : Nat} (h9 : w.1 < 129) (hNX : w.1 + 1 ≤ NX) (hkd : kg_kd w.1 = (3, n)) (hn : n < 2 ^ 20) (h1 : Cond.classLink own i "KeyGraves$State" ∈ kg_T) (hd : decode cc pc = .ok (.anewarray i, 3))
    (kk : kg_V G X nL N0 NX (pc + 3) ls (.ref w.1 :: st) (kg_new w (fun _ => 0)) (kg_row M w.1 (fun _ => 0))) : kg_V G X nL N0 NX pc ls (.int (nI n) :: st) w M := by
  intro g1 g2 p' e R s m args below meth c' Qf hX H locs A hH hS hl
  obtain ⟨hx, hb, hml, hown, hts, hI, hSt, hbs, ⟨hf1, hf2⟩, ⟨hc1, hc2⟩, -⟩ := hB _ _ _ _ _ _ _ _ _ _ hX
  have zs : kg_zs w.1 = n := by simp only [kg_zs, hkd]; rw [if_neg (by omega)]
  have m0 := kg_sz_mono g1
  have m1 := kg_sz_mono hNX
  have e0 : kg_sz (w.1 + 1) = kg_sz w.1 + n := by rw [kg_sz, zs]
  rw [List.map_cons]
  have hcl : (nI n).toNatClampNeg = n := nI_clamp (by omega)
  refine W.anew hx hb hown (hts _ h1) (va_AO.use hI.2.2.2) rfl hd rfl (nI_pos (by omega)) (by rw [hcl]; omega) (by omega) (by rw [hcl]; omega) fun cA kA comp f1 f2 f3 f4 => ?_
  have hcA : cA = G.2.2.2.1 3 := by
    obtain ⟨kA', comp', -, -, -, k4⟩ := (hI.1.2 3 _ rfl).2
    exact Option.some.inj (f1.symm.trans k4)
  subst hcA
  rw [hcl]
  generalize hH1 : H.push ({ cls := G.2.2.2.1 3, slots := Array.replicate n .null, vm := .none } : Cell) = H1
  have hz : H1.size = H.size + 1 := by rw [← hH1, Array.size_push]
  have e1 : H1[H.size]? = some (arrV (G.2.2.2.1 3) n (fun _ => .null)) := by rw [← hH1, Array.getElem?_push_size, ← arrV_new]
  have ho : ∀ q : Nat, q < H.size → H1[q]? = H[q]? := fun q hq => by rw [← hH1, Array.getElem?_push, if_neg (Nat.ne_of_lt hq)]
  have g1' : N0 ≤ (kg_new w (fun _ => 0)).1 := Nat.le_succ_of_le g1
  have g2' : (kg_new w (fun _ => 0)).1 ≤ NX := hNX
  have k2 := kk g1' g2' p' e R s m args below meth c' Qf hX H1 locs A (kg_WH_new hH h9 rfl hz ho ?_ (fun q hq => kg_ce_new (Nat.ne_of_lt hq))) (kg_S_new hS hz ho) hl
  · rw [List.map_cons, kg_cvref G (by omega), show (kg_new w (fun _ => 0)).1 = w.1 + 1 from rfl, e0, show w.1 + 1 - N0 = w.1 - N0 + 1 by omega, show kg_sz w.1 + n - kg_sz N0 = kg_sz w.1 - kg_sz N0 + n by omega] at k2
    rw [hH.1 h9]
    exact k2
  · rw [kg_ce_q hkd]
    show H1[_]? = some (vp_cell _ _)
    rw [← hH.1 h9, e1, vp_cell_q]
    simp [kg_new, kg_ro, va_rf]
end
end
